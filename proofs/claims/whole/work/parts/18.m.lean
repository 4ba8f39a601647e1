/-! MonsterCotModel.clause -/
theorem dX12_clause_0 : decode cX12_clause 0 = .ok (.aload_n 0, 1) := by decide +kernel
theorem dX12_clause_1 : decode cX12_clause 1 = .ok (.invokevirtual 135, 3) := by decide +kernel
theorem dX12_clause_4 : decode cX12_clause 4 = .ok (.istore_n 1, 1) := by decide +kernel
theorem dX12_clause_5 : decode cX12_clause 5 = .ok (.ldc 26, 2) := by decide +kernel
theorem dX12_clause_7 : decode cX12_clause 7 = .ok (.iload_n 1, 1) := by decide +kernel
theorem dX12_clause_8 : decode cX12_clause 8 = .ok (.invokestatic 151, 3) := by decide +kernel
theorem dX12_clause_11 : decode cX12_clause 11 = .ok (.ifCond .ne 9, 3) := by decide +kernel
theorem dX12_clause_14 : decode cX12_clause 14 = .ok (.aload_n 0, 1) := by decide +kernel
theorem dX12_clause_15 : decode cX12_clause 15 = .ok (.invokevirtual 131, 3) := by decide +kernel
theorem dX12_clause_18 : decode cX12_clause 18 = .ok (.pop, 1) := by decide +kernel
theorem dX12_clause_19 : decode cX12_clause 19 = .ok (.return_, 1) := by decide +kernel
theorem dX12_clause_20 : decode cX12_clause 20 = .ok (.aload_n 0, 1) := by decide +kernel
theorem dX12_clause_21 : decode cX12_clause 21 = .ok (.dup, 1) := by decide +kernel
theorem dX12_clause_22 : decode cX12_clause 22 = .ok (.getfield 116, 3) := by decide +kernel
theorem dX12_clause_25 : decode cX12_clause 25 = .ok (.iconst 1, 1) := by decide +kernel
theorem dX12_clause_26 : decode cX12_clause 26 = .ok (.iadd, 1) := by decide +kernel
theorem dX12_clause_27 : decode cX12_clause 27 = .ok (.putfield 116, 3) := by decide +kernel
theorem dX12_clause_30 : decode cX12_clause 30 = .ok (.aload_n 0, 1) := by decide +kernel
theorem dX12_clause_31 : decode cX12_clause 31 = .ok (.bipush 58, 2) := by decide +kernel
theorem dX12_clause_33 : decode cX12_clause 33 = .ok (.invokevirtual 161, 3) := by decide +kernel
theorem dX12_clause_36 : decode cX12_clause 36 = .ok (.ifCond .ne 4, 3) := by decide +kernel
theorem dX12_clause_39 : decode cX12_clause 39 = .ok (.return_, 1) := by decide +kernel
theorem dX12_clause_40 : decode cX12_clause 40 = .ok (.iconst 1, 1) := by decide +kernel
theorem dX12_clause_41 : decode cX12_clause 41 = .ok (.istore_n 2, 1) := by decide +kernel
theorem dX12_clause_42 : decode cX12_clause 42 = .ok (.iconst 0, 1) := by decide +kernel
theorem dX12_clause_43 : decode cX12_clause 43 = .ok (.istore_n 3, 1) := by decide +kernel
theorem dX12_clause_44 : decode cX12_clause 44 = .ok (.aload_n 0, 1) := by decide +kernel
theorem dX12_clause_45 : decode cX12_clause 45 = .ok (.invokevirtual 135, 3) := by decide +kernel
theorem dX12_clause_48 : decode cX12_clause 48 = .ok (.istore 4, 2) := by decide +kernel
theorem dX12_clause_50 : decode cX12_clause 50 = .ok (.iload 4, 2) := by decide +kernel
theorem dX12_clause_52 : decode cX12_clause 52 = .ok (.bipush 33, 2) := by decide +kernel
theorem dX12_clause_54 : decode cX12_clause 54 = .ok (.if_icmp .eq 10, 3) := by decide +kernel
theorem dX12_clause_57 : decode cX12_clause 57 = .ok (.iload 4, 2) := by decide +kernel
theorem dX12_clause_59 : decode cX12_clause 59 = .ok (.bipush 40, 2) := by decide +kernel
theorem dX12_clause_61 : decode cX12_clause 61 = .ok (.if_icmp .ne 28, 3) := by decide +kernel
theorem dX12_clause_64 : decode cX12_clause 64 = .ok (.aload_n 0, 1) := by decide +kernel
theorem dX12_clause_65 : decode cX12_clause 65 = .ok (.iconst 0, 1) := by decide +kernel
theorem dX12_clause_66 : decode cX12_clause 66 = .ok (.iconst 0, 1) := by decide +kernel
theorem dX12_clause_67 : decode cX12_clause 67 = .ok (.invokevirtual 184, 3) := by decide +kernel
theorem dX12_clause_70 : decode cX12_clause 70 = .ok (.istore_n 2, 1) := by decide +kernel
theorem dX12_clause_71 : decode cX12_clause 71 = .ok (.aload_n 0, 1) := by decide +kernel
theorem dX12_clause_72 : decode cX12_clause 72 = .ok (.bipush 63, 2) := by decide +kernel
theorem dX12_clause_74 : decode cX12_clause 74 = .ok (.invokevirtual 161, 3) := by decide +kernel
theorem dX12_clause_77 : decode cX12_clause 77 = .ok (.ifCond .ne 4, 3) := by decide +kernel
theorem dX12_clause_80 : decode cX12_clause 80 = .ok (.return_, 1) := by decide +kernel
theorem dX12_clause_81 : decode cX12_clause 81 = .ok (.aload_n 0, 1) := by decide +kernel
theorem dX12_clause_82 : decode cX12_clause 82 = .ok (.invokevirtual 158, 3) := by decide +kernel
theorem dX12_clause_85 : decode cX12_clause 85 = .ok (.istore_n 3, 1) := by decide +kernel
theorem dX12_clause_86 : decode cX12_clause 86 = .ok (.goto 48, 3) := by decide +kernel
theorem dX12_clause_89 : decode cX12_clause 89 = .ok (.aload_n 0, 1) := by decide +kernel
theorem dX12_clause_90 : decode cX12_clause 90 = .ok (.invokevirtual 158, 3) := by decide +kernel
theorem dX12_clause_93 : decode cX12_clause 93 = .ok (.istore_n 3, 1) := by decide +kernel
theorem dX12_clause_94 : decode cX12_clause 94 = .ok (.aload_n 0, 1) := by decide +kernel
theorem dX12_clause_95 : decode cX12_clause 95 = .ok (.getfield 125, 3) := by decide +kernel
theorem dX12_clause_98 : decode cX12_clause 98 = .ok (.iconst (-1), 1) := by decide +kernel
theorem dX12_clause_99 : decode cX12_clause 99 = .ok (.if_icmp .ne 35, 3) := by decide +kernel
theorem dX12_clause_102 : decode cX12_clause 102 = .ok (.aload_n 0, 1) := by decide +kernel
theorem dX12_clause_103 : decode cX12_clause 103 = .ok (.invokevirtual 135, 3) := by decide +kernel
theorem dX12_clause_106 : decode cX12_clause 106 = .ok (.invokestatic 178, 3) := by decide +kernel
theorem dX12_clause_109 : decode cX12_clause 109 = .ok (.ifCond .eq 25, 3) := by decide +kernel
theorem dX12_clause_112 : decode cX12_clause 112 = .ok (.aload_n 0, 1) := by decide +kernel
theorem dX12_clause_113 : decode cX12_clause 113 = .ok (.iconst 1, 1) := by decide +kernel
theorem dX12_clause_114 : decode cX12_clause 114 = .ok (.iload_n 3, 1) := by decide +kernel
theorem dX12_clause_115 : decode cX12_clause 115 = .ok (.invokevirtual 184, 3) := by decide +kernel
theorem dX12_clause_118 : decode cX12_clause 118 = .ok (.istore_n 2, 1) := by decide +kernel
theorem dX12_clause_119 : decode cX12_clause 119 = .ok (.aload_n 0, 1) := by decide +kernel
theorem dX12_clause_120 : decode cX12_clause 120 = .ok (.bipush 63, 2) := by decide +kernel
theorem dX12_clause_122 : decode cX12_clause 122 = .ok (.invokevirtual 161, 3) := by decide +kernel
theorem dX12_clause_125 : decode cX12_clause 125 = .ok (.ifCond .ne 4, 3) := by decide +kernel
theorem dX12_clause_128 : decode cX12_clause 128 = .ok (.return_, 1) := by decide +kernel
theorem dX12_clause_129 : decode cX12_clause 129 = .ok (.aload_n 0, 1) := by decide +kernel
theorem dX12_clause_130 : decode cX12_clause 130 = .ok (.invokevirtual 158, 3) := by decide +kernel
theorem dX12_clause_133 : decode cX12_clause 133 = .ok (.istore_n 3, 1) := by decide +kernel
theorem dX12_clause_134 : decode cX12_clause 134 = .ok (.aload_n 0, 1) := by decide +kernel
theorem dX12_clause_135 : decode cX12_clause 135 = .ok (.getfield 125, 3) := by decide +kernel
theorem dX12_clause_138 : decode cX12_clause 138 = .ok (.iconst (-1), 1) := by decide +kernel
theorem dX12_clause_139 : decode cX12_clause 139 = .ok (.if_icmp .ne 22, 3) := by decide +kernel
theorem dX12_clause_142 : decode cX12_clause 142 = .ok (.aload_n 0, 1) := by decide +kernel
theorem dX12_clause_143 : decode cX12_clause 143 = .ok (.getfield 194, 3) := by decide +kernel
theorem dX12_clause_146 : decode cX12_clause 146 = .ok (.ifCond .ne 15, 3) := by decide +kernel
theorem dX12_clause_149 : decode cX12_clause 149 = .ok (.iload_n 1, 1) := by decide +kernel
theorem dX12_clause_150 : decode cX12_clause 150 = .ok (.aload_n 0, 1) := by decide +kernel
theorem dX12_clause_151 : decode cX12_clause 151 = .ok (.getfield 198, 3) := by decide +kernel
theorem dX12_clause_154 : decode cX12_clause 154 = .ok (.if_icmp .ne 7, 3) := by decide +kernel
theorem dX12_clause_157 : decode cX12_clause 157 = .ok (.iload_n 2, 1) := by decide +kernel
theorem dX12_clause_158 : decode cX12_clause 158 = .ok (.ifCond .ne 4, 3) := by decide +kernel
theorem dX12_clause_161 : decode cX12_clause 161 = .ok (.return_, 1) := by decide +kernel
theorem dX12_clause_162 : decode cX12_clause 162 = .ok (.aload_n 0, 1) := by decide +kernel
theorem dX12_clause_163 : decode cX12_clause 163 = .ok (.iconst 1, 1) := by decide +kernel
theorem dX12_clause_164 : decode cX12_clause 164 = .ok (.putfield 194, 3) := by decide +kernel
theorem dX12_clause_167 : decode cX12_clause 167 = .ok (.aload_n 0, 1) := by decide +kernel
theorem dX12_clause_168 : decode cX12_clause 168 = .ok (.iload_n 3, 1) := by decide +kernel
theorem dX12_clause_169 : decode cX12_clause 169 = .ok (.putfield 201, 3) := by decide +kernel
theorem dX12_clause_172 : decode cX12_clause 172 = .ok (.return_, 1) := by decide +kernel
def X12_clause_134 (n : Nat) (x1 : Int32) (x2 : Bool) (x3 : Int32) (h : Mm) : Option (Unit × Mm) := (if (h.1 251 11) = (-1) then (if (h.1 251 17) = 0 then (if x1 = (h.1 251 13) then (if x2 = true then (some ((), (wI (wI h 251 17 (1)) 251 14 x3))) else (some ((), h))) else (some ((), h))) else (some ((), h))) else (some ((), h)))
set_option maxRecDepth 100000 in
set_option maxHeartbeats 4000000 in
theorem v_X12_clause_134 {X : WX} {G : GX} {o : Mm} {n : Nat} {rv : Unit} {hz : Mm} {x1 : Int32} {x2 : Bool} {x3 : Int32} {h : Mm} (hF : X12_clause_134 n x1 x2 x3 h = some (rv, hz)) : V X G RX12 cX12_clause 5 (none) 87 0 0 (QR X G false o none hz) false o 134 [(0, .ref (xa X 251)), (1, .int x1), (2, .int (b2i x2)), (3, .int x3)] [] h := by
  unfold X12_clause_134 at hF
  refine V.aload_n 0 dX12_clause_134 rfl rfl ?_
  refine V.getI fl_X12_125 sh_251 rfl km_251 dX12_clause_135 ?_
  refine V.iconst (v := -1) dX12_clause_138 rfl ?_
  refine V.icmp_ne (tgt := 161) dX12_clause_139 rfl (fun c => ?_) (fun c => ?_)
  · replace hF := (if_neg c).symm.trans hF
    cases hF
    exact V.vret dX12_clause_161
  · replace hF := (if_pos c).symm.trans hF
    refine V.aload_n 0 dX12_clause_142 rfl rfl ?_
    refine V.getI fl_X12_194 sh_251 rfl km_251 dX12_clause_143 ?_
    refine V.if_ne (tgt := 161) dX12_clause_146 rfl (fun c => ?_) (fun c => ?_)
    · replace hF := (if_neg c).symm.trans hF
      cases hF
      exact V.vret dX12_clause_161
    · replace hF := (if_pos c).symm.trans hF
      refine V.iload_n 1 dX12_clause_149 rfl rfl ?_
      refine V.aload_n 0 dX12_clause_150 rfl rfl ?_
      refine V.getI fl_X12_198 sh_251 rfl km_251 dX12_clause_151 ?_
      refine V.icmp_ne (tgt := 161) dX12_clause_154 rfl (fun c => ?_) (fun c => ?_)
      · replace hF := (if_neg c).symm.trans hF
        cases hF
        exact V.vret dX12_clause_161
      · replace hF := (if_pos c).symm.trans hF
        refine V.iload_n 2 dX12_clause_157 rfl rfl ?_
        refine V.ifz_ne (tgt := 162) dX12_clause_158 rfl (fun c => ?_) (fun c => ?_)
        · replace hF := (if_pos c).symm.trans hF
          refine V.aload_n 0 dX12_clause_162 rfl rfl ?_
          refine V.iconst (v := 1) dX12_clause_163 rfl ?_
          refine V.putI fl_X12_194 rfl (tyX12_ok 17 (by decide)) rfl rfl sh_251 rfl km_251 dX12_clause_164 ?_
          refine V.aload_n 0 dX12_clause_167 rfl rfl ?_
          refine V.iload_n 3 dX12_clause_168 rfl rfl ?_
          refine V.putI fl_X12_201 rfl (tyX12_ok 14 (by decide)) rfl rfl sh_251 rfl km_251 dX12_clause_169 ?_
          cases hF
          exact V.vret dX12_clause_172
        · replace hF := (if_neg c).symm.trans hF
          cases hF
          exact V.vret dX12_clause_161
def X12_clause_64 (n : Nat) (x1 : Int32) (h : Mm) : Option (Unit × Mm) := (bd (X12_condition n (X12_unit n 9) false (0) h) (fun r81 h83 => (bd (X12_takes n (63) h83) (fun r84 h86 => (if r84 = true then (bd (X12_sum n (X12_atom n 9) h86) (fun r87 h89 => (X12_clause_134 n x1 r81 r87 h89))) else (some ((), h86)))))))
set_option maxRecDepth 100000 in
set_option maxHeartbeats 4000000 in
theorem v_X12_clause_64 {X : WX} {G : GX} {o : Mm} {n : Nat} {rv : Unit} {hz : Mm} {x1 : Int32} {h : Mm} (hF : X12_clause_64 n x1 h = some (rv, hz)) : V X G RX12 cX12_clause 5 (none) 87 0 0 (QR X G false o none hz) false o 64 [(0, .ref (xa X 251)), (1, .int x1)] [] h := by
  unfold X12_clause_64 at hF
  refine V.aload_n 0 dX12_clause_64 rfl rfl ?_
  refine V.iconst (v := 0) dX12_clause_65 rfl ?_
  refine V.iconst (v := 0) dX12_clause_66 rfl ?_
  obtain ⟨r81, h83, hc82, hF⟩ := bd_s hF
  refine V.callVi mf_X12_condition ml_X12_184 sh_251 (s_X12_condition (dr := 84) (by decide) (s_X12_unit 9) hc82) (by decide) rfl rfl (Nat.le_of_ble_eq_true rfl) dX12_clause_67 ?_
  refine V.istore_n [(2, _), (0, _), (1, _)] dX12_clause_70 rfl (by decide) rfl ?_
  refine V.aload_n 1 dX12_clause_71 rfl rfl ?_
  refine V.bipush (v := 63) dX12_clause_72 (by decide) ?_
  obtain ⟨r84, h86, hc85, hF⟩ := bd_s hF
  refine V.callVi mf_X12_takes ml_X12_161 sh_251 (s_X12_takes hc85) (by decide) rfl rfl (Nat.le_of_ble_eq_true rfl) dX12_clause_74 ?_
  refine V.ifz_ne (tgt := 81) dX12_clause_77 rfl (fun c => ?_) (fun c => ?_)
  · replace hF := (if_pos c).symm.trans hF
    refine V.aload_n 1 dX12_clause_81 rfl rfl ?_
    obtain ⟨r87, h89, hc88, hF⟩ := bd_s hF
    refine V.callVi mf_X12_sum ml_X12_158 sh_251 (s_X12_sum (dr := 43) (by decide) (s_X12_atom 9) hc88) (by decide) rfl rfl (Nat.le_of_ble_eq_true rfl) dX12_clause_82 ?_
    refine V.istore_n [(3, _), (2, _), (0, _), (1, _)] dX12_clause_85 rfl (by decide) rfl ?_
    refine V.goto (tgt := 134) dX12_clause_86 rfl ?_
    exact V.sub [2, 3, 1, 0] rfl (v_X12_clause_134 hF)
  · replace hF := (if_neg c).symm.trans hF
    cases hF
    exact V.vret dX12_clause_80
def X12_clause (n : Nat) (h : Mm) : Option (Unit × Mm) := (bd (X12_look n h) (fun r90 h92 => (bp (X12_isAmong n 1031 r90 h92) (fun r93 => (if r93 = true then (bd (X12_takes n (58) (wI h92 251 10 ((h92.1 251 10) + (1)))) (fun r95 h97 => (if r95 = true then (bd (X12_look n h97) (fun r98 h100 => (if r98 = (33) then (X12_clause_64 n r90 h100) else (if r98 = (40) then (X12_clause_64 n r90 h100) else (bd (X12_sum n (X12_atom n 9) h100) (fun r101 h103 => (if (h103.1 251 11) = (-1) then (bd (X12_look n h103) (fun r104 h106 => (bp (X12_isSign r104 h106) (fun r107 => (if r107 = true then (bd (X12_condition n (X12_unit n 9) true r101 h106) (fun r109 h111 => (bd (X12_takes n (63) h111) (fun r112 h114 => (if r112 = true then (bd (X12_sum n (X12_atom n 9) h114) (fun r115 h117 => (X12_clause_134 n r90 r109 r115 h117))) else (some ((), h114))))))) else (X12_clause_134 n r90 true r101 h106)))))) else (X12_clause_134 n r90 true r101 h103)))))))) else (some ((), h97))))) else (bd (X12_fails h92) (fun r118 h120 => (some ((), h120)))))))))
set_option maxRecDepth 100000 in
set_option maxHeartbeats 4000000 in
theorem s_X12_clause {X : WX} {o : Mm} {n : Nat} {rv : Unit} {hz : Mm} {h : Mm} (hF : X12_clause n h = some (rv, hz)) : Sat X yX12_clause cX12_clause 5 (none) 87 [.ref (xa X 251)] false o h none hz := by
  unfold X12_clause at hF
  refine Sat.mk (own := RX12) rfl (by decide +kernel) (Nat.le_of_ble_eq_true rfl) (fun G => ?_)
  refine V.sub (lv2 := [(0, _)]) [0] rfl ?_
  refine V.aload_n 0 dX12_clause_0 rfl rfl ?_
  obtain ⟨r90, h92, hc91, hF⟩ := bd_s hF
  refine V.callVi mf_X12_look ml_X12_135 sh_251 (s_X12_look hc91) (by decide) rfl rfl (Nat.le_of_ble_eq_true rfl) dX12_clause_1 ?_
  refine V.istore_n [(1, _), (0, _)] dX12_clause_4 rfl (by decide) rfl ?_
  refine V.ldcS sc_1031 rfl rfl dX12_clause_5 ?_
  refine V.iload_n 0 dX12_clause_7 rfl rfl ?_
  obtain ⟨r93, hc94, hF⟩ := bp_s hF
  refine V.callSi mf_X12_isAmong ml_X12_151 (s_X12_isAmong ⟨by decide, by decide⟩ hc94) (by decide) rfl rfl (Nat.le_of_ble_eq_true rfl) dX12_clause_8 ?_
  refine V.ifz_ne (tgt := 20) dX12_clause_11 rfl (fun c => ?_) (fun c => ?_)
  · replace hF := (if_pos c).symm.trans hF
    refine V.aload_n 1 dX12_clause_20 rfl rfl ?_
    refine V.dup dX12_clause_21 rfl ?_
    refine V.getI fl_X12_116 sh_251 rfl km_251 dX12_clause_22 ?_
    refine V.iconst (v := 1) dX12_clause_25 rfl ?_
    refine V.iadd dX12_clause_26 ?_
    refine V.putI fl_X12_116 rfl (tyX12_ok 10 (by decide)) rfl rfl sh_251 rfl km_251 dX12_clause_27 ?_
    refine V.aload_n 1 dX12_clause_30 rfl rfl ?_
    refine V.bipush (v := 58) dX12_clause_31 (by decide) ?_
    obtain ⟨r95, h97, hc96, hF⟩ := bd_s hF
    refine V.callVi mf_X12_takes ml_X12_161 sh_251 (s_X12_takes hc96) (by decide) rfl rfl (Nat.le_of_ble_eq_true rfl) dX12_clause_33 ?_
    refine V.ifz_ne (tgt := 40) dX12_clause_36 rfl (fun c => ?_) (fun c => ?_)
    · replace hF := (if_pos c).symm.trans hF
      refine V.iconst (v := 1) dX12_clause_40 rfl ?_
      refine V.istore_n [(2, _), (1, _), (0, _)] dX12_clause_41 rfl (by decide) rfl ?_
      refine V.iconst (v := 0) dX12_clause_42 rfl ?_
      refine V.istore_n [(3, _), (2, _), (1, _), (0, _)] dX12_clause_43 rfl (by decide) rfl ?_
      refine V.aload_n 3 dX12_clause_44 rfl rfl ?_
      obtain ⟨r98, h100, hc99, hF⟩ := bd_s hF
      refine V.callVi mf_X12_look ml_X12_135 sh_251 (s_X12_look hc99) (by decide) rfl rfl (Nat.le_of_ble_eq_true rfl) dX12_clause_45 ?_
      refine V.istore [(4, _), (3, _), (2, _), (1, _), (0, _)] dX12_clause_48 (by decide) rfl ?_
      refine V.iload 0 dX12_clause_50 rfl ?_
      refine V.bipush (v := 33) dX12_clause_52 (by decide) ?_
      refine V.icmp_eq (tgt := 64) dX12_clause_54 rfl (fun c => ?_) (fun c => ?_)
      · replace hF := (if_pos c).symm.trans hF
        exact V.sub [4, 3] rfl (v_X12_clause_64 hF)
      · replace hF := (if_neg c).symm.trans hF
        refine V.iload 0 dX12_clause_57 rfl ?_
        refine V.bipush (v := 40) dX12_clause_59 (by decide) ?_
        refine V.icmp_ne (tgt := 89) dX12_clause_61 rfl (fun c => ?_) (fun c => ?_)
        · replace hF := (if_neg c).symm.trans hF
          refine V.aload_n 4 dX12_clause_89 rfl rfl ?_
          obtain ⟨r101, h103, hc102, hF⟩ := bd_s hF
          refine V.callVi mf_X12_sum ml_X12_158 sh_251 (s_X12_sum (dr := 43) (by decide) (s_X12_atom 9) hc102) (by decide) rfl rfl (Nat.le_of_ble_eq_true rfl) dX12_clause_90 ?_
          refine V.istore_n [(3, _), (4, _), (2, _), (1, _), (0, _)] dX12_clause_93 rfl (by decide) rfl ?_
          refine V.aload_n 4 dX12_clause_94 rfl rfl ?_
          refine V.getI fl_X12_125 sh_251 rfl km_251 dX12_clause_95 ?_
          refine V.iconst (v := -1) dX12_clause_98 rfl ?_
          refine V.icmp_ne (tgt := 134) dX12_clause_99 rfl (fun c => ?_) (fun c => ?_)
          · replace hF := (if_neg c).symm.trans hF
            exact V.sub [4, 3, 2, 0] rfl (v_X12_clause_134 hF)
          · replace hF := (if_pos c).symm.trans hF
            refine V.aload_n 4 dX12_clause_102 rfl rfl ?_
            obtain ⟨r104, h106, hc105, hF⟩ := bd_s hF
            refine V.callVi mf_X12_look ml_X12_135 sh_251 (s_X12_look hc105) (by decide) rfl rfl (Nat.le_of_ble_eq_true rfl) dX12_clause_103 ?_
            obtain ⟨r107, hc108, hF⟩ := bp_s hF
            refine V.callSi mf_X12_isSign ml_X12_178 (s_X12_isSign hc108) (by decide) rfl rfl (Nat.le_of_ble_eq_true rfl) dX12_clause_106 ?_
            refine V.ifz_eq (tgt := 134) dX12_clause_109 rfl (fun c => ?_) (fun c => ?_)
            · replace hF := (if_neg c).symm.trans hF
              exact V.sub [4, 3, 2, 0] rfl (v_X12_clause_134 hF)
            · replace hF := (if_pos c).symm.trans hF
              refine V.aload_n 4 dX12_clause_112 rfl rfl ?_
              refine V.iconst (v := 1) dX12_clause_113 rfl ?_
              refine V.iload_n 0 dX12_clause_114 rfl rfl ?_
              obtain ⟨r109, h111, hc110, hF⟩ := bd_s hF
              refine V.callVi mf_X12_condition ml_X12_184 sh_251 (s_X12_condition (dr := 84) (by decide) (s_X12_unit 9) hc110) (by decide) rfl rfl (Nat.le_of_ble_eq_true rfl) dX12_clause_115 ?_
              refine V.istore_n [(2, _), (3, _), (4, _), (1, _), (0, _)] dX12_clause_118 rfl (by decide) rfl ?_
              refine V.aload_n 4 dX12_clause_119 rfl rfl ?_
              refine V.bipush (v := 63) dX12_clause_120 (by decide) ?_
              obtain ⟨r112, h114, hc113, hF⟩ := bd_s hF
              refine V.callVi mf_X12_takes ml_X12_161 sh_251 (s_X12_takes hc113) (by decide) rfl rfl (Nat.le_of_ble_eq_true rfl) dX12_clause_122 ?_
              refine V.ifz_ne (tgt := 129) dX12_clause_125 rfl (fun c => ?_) (fun c => ?_)
              · replace hF := (if_pos c).symm.trans hF
                refine V.aload_n 4 dX12_clause_129 rfl rfl ?_
                obtain ⟨r115, h117, hc116, hF⟩ := bd_s hF
                refine V.callVi mf_X12_sum ml_X12_158 sh_251 (s_X12_sum (dr := 43) (by decide) (s_X12_atom 9) hc116) (by decide) rfl rfl (Nat.le_of_ble_eq_true rfl) dX12_clause_130 ?_
                refine V.istore_n [(3, _), (2, _), (4, _), (1, _), (0, _)] dX12_clause_133 rfl (by decide) rfl ?_
                exact V.sub [4, 3, 1, 0] rfl (v_X12_clause_134 hF)
              · replace hF := (if_neg c).symm.trans hF
                cases hF
                exact V.vret dX12_clause_128
        · replace hF := (if_pos c).symm.trans hF
          exact V.sub [4, 3] rfl (v_X12_clause_64 hF)
    · replace hF := (if_neg c).symm.trans hF
      cases hF
      exact V.vret dX12_clause_39
  · replace hF := (if_neg c).symm.trans hF
    refine V.aload_n 1 dX12_clause_14 rfl rfl ?_
    obtain ⟨r118, h120, hc119, hF⟩ := bd_s hF
    refine V.callVi mf_X12_fails ml_X12_131 sh_251 (s_X12_fails hc119) (by decide) rfl rfl (Nat.le_of_ble_eq_true rfl) dX12_clause_15 ?_
    refine V.pop dX12_clause_18 rfl ?_
    cases hF
    exact V.vret dX12_clause_19
/-! MonsterCotModel.starts -/
theorem dX12_starts_0 : decode cX12_starts 0 = .ok (.aload_n 0, 1) := by decide +kernel
theorem dX12_starts_1 : decode cX12_starts 1 = .ok (.aload_n 1, 1) := by decide +kernel
theorem dX12_starts_2 : decode cX12_starts 2 = .ok (.putfield 23, 3) := by decide +kernel
theorem dX12_starts_5 : decode cX12_starts 5 = .ok (.aload_n 0, 1) := by decide +kernel
theorem dX12_starts_6 : decode cX12_starts 6 = .ok (.iload_n 2, 1) := by decide +kernel
theorem dX12_starts_7 : decode cX12_starts 7 = .ok (.putfield 122, 3) := by decide +kernel
theorem dX12_starts_10 : decode cX12_starts 10 = .ok (.aload_n 0, 1) := by decide +kernel
theorem dX12_starts_11 : decode cX12_starts 11 = .ok (.iload_n 3, 1) := by decide +kernel
theorem dX12_starts_12 : decode cX12_starts 12 = .ok (.putfield 119, 3) := by decide +kernel
theorem dX12_starts_15 : decode cX12_starts 15 = .ok (.aload_n 0, 1) := by decide +kernel
theorem dX12_starts_16 : decode cX12_starts 16 = .ok (.iconst 0, 1) := by decide +kernel
theorem dX12_starts_17 : decode cX12_starts 17 = .ok (.putfield 116, 3) := by decide +kernel
theorem dX12_starts_20 : decode cX12_starts 20 = .ok (.aload_n 0, 1) := by decide +kernel
theorem dX12_starts_21 : decode cX12_starts 21 = .ok (.iconst (-1), 1) := by decide +kernel
theorem dX12_starts_22 : decode cX12_starts 22 = .ok (.putfield 125, 3) := by decide +kernel
theorem dX12_starts_25 : decode cX12_starts 25 = .ok (.return_, 1) := by decide +kernel
def X12_starts (a1 : Nat) (x2 : Int32) (x3 : Int32) (h : Mm) : Option (Unit × Mm) := (some ((), (wI (wI (wI (wI (wI h 251 5 (Int32.ofNat (a1 + 1))) 251 8 x2) 251 9 x3) 251 10 (0)) 251 11 (-1))))
set_option maxRecDepth 100000 in
set_option maxHeartbeats 4000000 in
theorem s_X12_starts {X : WX} {o : Mm} {a1 : Nat} {x2 : Int32} {x3 : Int32} {rv : Unit} {hz : Mm} {h : Mm} (ha1 : isO false 2 a1) (hF : X12_starts a1 x2 x3 h = some (rv, hz)) : Sat X yX12_starts cX12_starts 4 (none) 1 [.ref (xa X 251), .ref (xa X a1), .int x2, .int x3] false o h none hz := by
  unfold X12_starts at hF
  refine Sat.mk (own := RX12) rfl (by decide +kernel) (Nat.le_of_ble_eq_true rfl) (fun G => ?_)
  refine V.sub (lv2 := [(0, _), (1, _), (2, _), (3, _)]) [0, 1, 2, 3] rfl ?_
  refine V.aload_n 0 dX12_starts_0 rfl rfl ?_
  refine V.aload_n 1 dX12_starts_1 rfl rfl ?_
  refine V.putN fl_X12_23 rfl (tyX12_ok 5 (by decide)) rfl rfl sh_251 rfl km_251 ha1.lt2 dX12_starts_2 ?_
  refine V.aload_n 0 dX12_starts_5 rfl rfl ?_
  refine V.iload_n 2 dX12_starts_6 rfl rfl ?_
  refine V.putI fl_X12_122 rfl (tyX12_ok 8 (by decide)) rfl rfl sh_251 rfl km_251 dX12_starts_7 ?_
  refine V.aload_n 0 dX12_starts_10 rfl rfl ?_
  refine V.iload_n 3 dX12_starts_11 rfl rfl ?_
  refine V.putI fl_X12_119 rfl (tyX12_ok 9 (by decide)) rfl rfl sh_251 rfl km_251 dX12_starts_12 ?_
  refine V.aload_n 0 dX12_starts_15 rfl rfl ?_
  refine V.iconst (v := 0) dX12_starts_16 rfl ?_
  refine V.putI fl_X12_116 rfl (tyX12_ok 10 (by decide)) rfl rfl sh_251 rfl km_251 dX12_starts_17 ?_
  refine V.aload_n 0 dX12_starts_20 rfl rfl ?_
  refine V.iconst (v := -1) dX12_starts_21 rfl ?_
  refine V.putI fl_X12_125 rfl (tyX12_ok 11 (by decide)) rfl rfl sh_251 rfl km_251 dX12_starts_22 ?_
  cases hF
  exact V.vret dX12_starts_25
/-! MonsterCotModel.goThrough -/
theorem dX12_goThrough_0 : decode cX12_goThrough 0 = .ok (.aload_n 0, 1) := by decide +kernel
theorem dX12_goThrough_1 : decode cX12_goThrough 1 = .ok (.aload_n 1, 1) := by decide +kernel
theorem dX12_goThrough_2 : decode cX12_goThrough 2 = .ok (.iload_n 2, 1) := by decide +kernel
theorem dX12_goThrough_3 : decode cX12_goThrough 3 = .ok (.iload_n 3, 1) := by decide +kernel
theorem dX12_goThrough_4 : decode cX12_goThrough 4 = .ok (.invokevirtual 204, 3) := by decide +kernel
theorem dX12_goThrough_7 : decode cX12_goThrough 7 = .ok (.aload_n 0, 1) := by decide +kernel
theorem dX12_goThrough_8 : decode cX12_goThrough 8 = .ok (.bipush 121, 2) := by decide +kernel
theorem dX12_goThrough_10 : decode cX12_goThrough 10 = .ok (.putfield 198, 3) := by decide +kernel
theorem dX12_goThrough_13 : decode cX12_goThrough 13 = .ok (.aload_n 0, 1) := by decide +kernel
theorem dX12_goThrough_14 : decode cX12_goThrough 14 = .ok (.iconst 0, 1) := by decide +kernel
theorem dX12_goThrough_15 : decode cX12_goThrough 15 = .ok (.putfield 128, 3) := by decide +kernel
theorem dX12_goThrough_18 : decode cX12_goThrough 18 = .ok (.aload_n 0, 1) := by decide +kernel
theorem dX12_goThrough_19 : decode cX12_goThrough 19 = .ok (.iconst 0, 1) := by decide +kernel
theorem dX12_goThrough_20 : decode cX12_goThrough 20 = .ok (.putfield 194, 3) := by decide +kernel
theorem dX12_goThrough_23 : decode cX12_goThrough 23 = .ok (.aload_n 0, 1) := by decide +kernel
theorem dX12_goThrough_24 : decode cX12_goThrough 24 = .ok (.iconst 0, 1) := by decide +kernel
theorem dX12_goThrough_25 : decode cX12_goThrough 25 = .ok (.putfield 201, 3) := by decide +kernel
theorem dX12_goThrough_28 : decode cX12_goThrough 28 = .ok (.aload_n 0, 1) := by decide +kernel
theorem dX12_goThrough_29 : decode cX12_goThrough 29 = .ok (.invokevirtual 208, 3) := by decide +kernel
theorem dX12_goThrough_32 : decode cX12_goThrough 32 = .ok (.aload_n 0, 1) := by decide +kernel
theorem dX12_goThrough_33 : decode cX12_goThrough 33 = .ok (.getfield 125, 3) := by decide +kernel
theorem dX12_goThrough_36 : decode cX12_goThrough 36 = .ok (.iconst (-1), 1) := by decide +kernel
theorem dX12_goThrough_37 : decode cX12_goThrough 37 = .ok (.if_icmp .ne 29, 3) := by decide +kernel
theorem dX12_goThrough_40 : decode cX12_goThrough 40 = .ok (.aload_n 0, 1) := by decide +kernel
theorem dX12_goThrough_41 : decode cX12_goThrough 41 = .ok (.invokevirtual 135, 3) := by decide +kernel
theorem dX12_goThrough_44 : decode cX12_goThrough 44 = .ok (.bipush 59, 2) := by decide +kernel
theorem dX12_goThrough_46 : decode cX12_goThrough 46 = .ok (.if_icmp .ne 20, 3) := by decide +kernel
theorem dX12_goThrough_49 : decode cX12_goThrough 49 = .ok (.aload_n 0, 1) := by decide +kernel
theorem dX12_goThrough_50 : decode cX12_goThrough 50 = .ok (.dup, 1) := by decide +kernel
theorem dX12_goThrough_51 : decode cX12_goThrough 51 = .ok (.getfield 116, 3) := by decide +kernel
theorem dX12_goThrough_54 : decode cX12_goThrough 54 = .ok (.iconst 1, 1) := by decide +kernel
theorem dX12_goThrough_55 : decode cX12_goThrough 55 = .ok (.iadd, 1) := by decide +kernel
theorem dX12_goThrough_56 : decode cX12_goThrough 56 = .ok (.putfield 116, 3) := by decide +kernel
theorem dX12_goThrough_59 : decode cX12_goThrough 59 = .ok (.aload_n 0, 1) := by decide +kernel
theorem dX12_goThrough_60 : decode cX12_goThrough 60 = .ok (.invokevirtual 208, 3) := by decide +kernel
theorem dX12_goThrough_63 : decode cX12_goThrough 63 = .ok (.goto (-31), 3) := by decide +kernel
theorem dX12_goThrough_66 : decode cX12_goThrough 66 = .ok (.aload_n 0, 1) := by decide +kernel
theorem dX12_goThrough_67 : decode cX12_goThrough 67 = .ok (.getfield 125, 3) := by decide +kernel
theorem dX12_goThrough_70 : decode cX12_goThrough 70 = .ok (.iconst (-1), 1) := by decide +kernel
theorem dX12_goThrough_71 : decode cX12_goThrough 71 = .ok (.if_icmp .ne 16, 3) := by decide +kernel
theorem dX12_goThrough_74 : decode cX12_goThrough 74 = .ok (.aload_n 0, 1) := by decide +kernel
theorem dX12_goThrough_75 : decode cX12_goThrough 75 = .ok (.invokevirtual 135, 3) := by decide +kernel
theorem dX12_goThrough_78 : decode cX12_goThrough 78 = .ok (.iconst (-1), 1) := by decide +kernel
theorem dX12_goThrough_79 : decode cX12_goThrough 79 = .ok (.if_icmp .eq 8, 3) := by decide +kernel
theorem dX12_goThrough_82 : decode cX12_goThrough 82 = .ok (.aload_n 0, 1) := by decide +kernel
theorem dX12_goThrough_83 : decode cX12_goThrough 83 = .ok (.invokevirtual 131, 3) := by decide +kernel
theorem dX12_goThrough_86 : decode cX12_goThrough 86 = .ok (.pop, 1) := by decide +kernel
theorem dX12_goThrough_87 : decode cX12_goThrough 87 = .ok (.return_, 1) := by decide +kernel
def X12_goThrough_66 (n : Nat) (a1 : Nat) (h : Mm) : Option (Unit × Mm) := (if (h.1 251 11) = (-1) then (bd (X12_look n h) (fun r31 h33 => (if r31 = (-1) then (some ((), h33)) else (bd (X12_fails h33) (fun r34 h36 => (some ((), h36))))))) else (some ((), h)))
set_option maxRecDepth 100000 in
set_option maxHeartbeats 4000000 in
theorem v_X12_goThrough_66 {X : WX} {G : GX} {o : Mm} {n : Nat} {a1 : Nat} {rv : Unit} {hz : Mm} (ha1 : isO false 2 a1) {h : Mm} (hF : X12_goThrough_66 n a1 h = some (rv, hz)) : V X G RX12 cX12_goThrough 4 (none) 88 0 0 (QR X G false o none hz) false o 66 [(0, .ref (xa X 251))] [] h := by
  unfold X12_goThrough_66 at hF
  refine V.aload_n 0 dX12_goThrough_66 rfl rfl ?_
  refine V.getI fl_X12_125 sh_251 rfl km_251 dX12_goThrough_67 ?_
  refine V.iconst (v := -1) dX12_goThrough_70 rfl ?_
  refine V.icmp_ne (tgt := 87) dX12_goThrough_71 rfl (fun c => ?_) (fun c => ?_)
  · replace hF := (if_neg c).symm.trans hF
    cases hF
    exact V.vret dX12_goThrough_87
  · replace hF := (if_pos c).symm.trans hF
    refine V.aload_n 0 dX12_goThrough_74 rfl rfl ?_
    obtain ⟨r31, h33, hc32, hF⟩ := bd_s hF
    refine V.callVi mf_X12_look ml_X12_135 sh_251 (s_X12_look hc32) (by decide) rfl rfl (Nat.le_of_ble_eq_true rfl) dX12_goThrough_75 ?_
    refine V.iconst (v := -1) dX12_goThrough_78 rfl ?_
    refine V.icmp_eq (tgt := 87) dX12_goThrough_79 rfl (fun c => ?_) (fun c => ?_)
    · replace hF := (if_pos c).symm.trans hF
      cases hF
      exact V.vret dX12_goThrough_87
    · replace hF := (if_neg c).symm.trans hF
      refine V.aload_n 0 dX12_goThrough_82 rfl rfl ?_
      obtain ⟨r34, h36, hc35, hF⟩ := bd_s hF
      refine V.callVi mf_X12_fails ml_X12_131 sh_251 (s_X12_fails hc35) (by decide) rfl rfl (Nat.le_of_ble_eq_true rfl) dX12_goThrough_83 ?_
      refine V.pop dX12_goThrough_86 rfl ?_
      cases hF
      exact V.vret dX12_goThrough_87
def X12_goThrough_32 (n : Nat) (a1 : Nat) : Nat → Mm → Option (Unit × Mm)
  | 0, _ => none
  | f + 1, h => (if (h.1 251 11) = (-1) then (bd (X12_look n h) (fun r37 h39 => (if r37 = (59) then (bd (X12_clause n (wI h39 251 10 ((h39.1 251 10) + (1)))) (fun _ h42 => ((X12_goThrough_32 n a1 f) h42))) else (X12_goThrough_66 n a1 h39)))) else (X12_goThrough_66 n a1 h))
set_option maxRecDepth 100000 in
set_option maxHeartbeats 4000000 in
theorem v_X12_goThrough_32 {X : WX} {G : GX} {o : Mm} {n : Nat} {a1 : Nat} {rv : Unit} {hz : Mm} (ha1 : isO false 2 a1) : ∀ (f : Nat) (h : Mm), X12_goThrough_32 n a1 f  h = some (rv, hz) → V X G RX12 cX12_goThrough 4 (none) 88 0 0 (QR X G false o none hz) false o 32 [(0, .ref (xa X 251))] [] h := by
  intro f
  induction f with
  | zero => intro  h hF; exact nomatch (show (none : Option (Unit × Mm)) = some (rv, hz) from hF)
  | succ f ih =>
    intro  h hF
    unfold X12_goThrough_32 at hF
    refine V.aload_n 0 dX12_goThrough_32 rfl rfl ?_
    refine V.getI fl_X12_125 sh_251 rfl km_251 dX12_goThrough_33 ?_
    refine V.iconst (v := -1) dX12_goThrough_36 rfl ?_
    refine V.icmp_ne (tgt := 66) dX12_goThrough_37 rfl (fun c => ?_) (fun c => ?_)
    · replace hF := (if_neg c).symm.trans hF
      exact (v_X12_goThrough_66 ha1 hF)
    · replace hF := (if_pos c).symm.trans hF
      refine V.aload_n 0 dX12_goThrough_40 rfl rfl ?_
      obtain ⟨r37, h39, hc38, hF⟩ := bd_s hF
      refine V.callVi mf_X12_look ml_X12_135 sh_251 (s_X12_look hc38) (by decide) rfl rfl (Nat.le_of_ble_eq_true rfl) dX12_goThrough_41 ?_
      refine V.bipush (v := 59) dX12_goThrough_44 (by decide) ?_
      refine V.icmp_ne (tgt := 66) dX12_goThrough_46 rfl (fun c => ?_) (fun c => ?_)
      · replace hF := (if_neg c).symm.trans hF
        exact (v_X12_goThrough_66 ha1 hF)
      · replace hF := (if_pos c).symm.trans hF
        refine V.aload_n 0 dX12_goThrough_49 rfl rfl ?_
        refine V.dup dX12_goThrough_50 rfl ?_
        refine V.getI fl_X12_116 sh_251 rfl km_251 dX12_goThrough_51 ?_
        refine V.iconst (v := 1) dX12_goThrough_54 rfl ?_
        refine V.iadd dX12_goThrough_55 ?_
        refine V.putI fl_X12_116 rfl (tyX12_ok 10 (by decide)) rfl rfl sh_251 rfl km_251 dX12_goThrough_56 ?_
        refine V.aload_n 0 dX12_goThrough_59 rfl rfl ?_
        obtain ⟨r40, h42, hc41, hF⟩ := bd_s hF
        refine V.callVv mf_X12_clause ml_X12_208 sh_251 (s_X12_clause hc41) (by decide) rfl rfl (Nat.le_of_ble_eq_true rfl) dX12_goThrough_60 ?_
        refine V.goto (tgt := 32) dX12_goThrough_63 rfl ?_
        exact ih _ hF
def X12_goThrough (n : Nat) (a1 : Nat) (x2 : Int32) (x3 : Int32) (h : Mm) : Option (Unit × Mm) := (bd (X12_starts a1 x2 x3 h) (fun _ h45 => (bd (X12_clause n (wI (wI (wI (wI h45 251 13 (121)) 251 12 (0)) 251 17 (0)) 251 14 (0))) (fun _ h48 => (X12_goThrough_32 n a1 n h48)))))
set_option maxRecDepth 100000 in
set_option maxHeartbeats 4000000 in
theorem s_X12_goThrough {X : WX} {o : Mm} {n : Nat} {a1 : Nat} {x2 : Int32} {x3 : Int32} {rv : Unit} {hz : Mm} {h : Mm} (ha1 : isO false 2 a1) (hF : X12_goThrough n a1 x2 x3 h = some (rv, hz)) : Sat X yX12_goThrough cX12_goThrough 4 (none) 88 [.ref (xa X 251), .ref (xa X a1), .int x2, .int x3] false o h none hz := by
  unfold X12_goThrough at hF
  refine Sat.mk (own := RX12) rfl (by decide +kernel) (Nat.le_of_ble_eq_true rfl) (fun G => ?_)
  refine V.sub (lv2 := [(0, _), (1, _), (2, _), (3, _)]) [0, 1, 2, 3] rfl ?_
  refine V.aload_n 0 dX12_goThrough_0 rfl rfl ?_
  refine V.aload_n 1 dX12_goThrough_1 rfl rfl ?_
  refine V.iload_n 2 dX12_goThrough_2 rfl rfl ?_
  refine V.iload_n 3 dX12_goThrough_3 rfl rfl ?_
  obtain ⟨r43, h45, hc44, hF⟩ := bd_s hF
  refine V.callVv mf_X12_starts ml_X12_204 sh_251 (s_X12_starts ha1 hc44) (by decide) rfl rfl (Nat.le_of_ble_eq_true rfl) dX12_goThrough_4 ?_
  refine V.aload_n 0 dX12_goThrough_7 rfl rfl ?_
  refine V.bipush (v := 121) dX12_goThrough_8 (by decide) ?_
  refine V.putI fl_X12_198 rfl (tyX12_ok 13 (by decide)) rfl rfl sh_251 rfl km_251 dX12_goThrough_10 ?_
  refine V.aload_n 0 dX12_goThrough_13 rfl rfl ?_
  refine V.iconst (v := 0) dX12_goThrough_14 rfl ?_
  refine V.putI fl_X12_128 rfl (tyX12_ok 12 (by decide)) rfl rfl sh_251 rfl km_251 dX12_goThrough_15 ?_
  refine V.aload_n 0 dX12_goThrough_18 rfl rfl ?_
  refine V.iconst (v := 0) dX12_goThrough_19 rfl ?_
  refine V.putI fl_X12_194 rfl (tyX12_ok 17 (by decide)) rfl rfl sh_251 rfl km_251 dX12_goThrough_20 ?_
  refine V.aload_n 0 dX12_goThrough_23 rfl rfl ?_
  refine V.iconst (v := 0) dX12_goThrough_24 rfl ?_
  refine V.putI fl_X12_201 rfl (tyX12_ok 14 (by decide)) rfl rfl sh_251 rfl km_251 dX12_goThrough_25 ?_
  refine V.aload_n 0 dX12_goThrough_28 rfl rfl ?_
  obtain ⟨r46, h48, hc47, hF⟩ := bd_s hF
  refine V.callVv mf_X12_clause ml_X12_208 sh_251 (s_X12_clause hc47) (by decide) rfl rfl (Nat.le_of_ble_eq_true rfl) dX12_goThrough_29 ?_
  exact V.sub [0] rfl (v_X12_goThrough_32 ha1 n _ hF)
/-! MonsterCotModel.here -/
theorem dX12_here_0 : decode cX12_here 0 = .ok (.aload_n 0, 1) := by decide +kernel
theorem dX12_here_1 : decode cX12_here 1 = .ok (.getfield 116, 3) := by decide +kernel
theorem dX12_here_4 : decode cX12_here 4 = .ok (.aload_n 0, 1) := by decide +kernel
theorem dX12_here_5 : decode cX12_here 5 = .ok (.getfield 119, 3) := by decide +kernel
theorem dX12_here_8 : decode cX12_here 8 = .ok (.if_icmp .ge 24, 3) := by decide +kernel
theorem dX12_here_11 : decode cX12_here 11 = .ok (.aload_n 0, 1) := by decide +kernel
theorem dX12_here_12 : decode cX12_here 12 = .ok (.getfield 23, 3) := by decide +kernel
theorem dX12_here_15 : decode cX12_here 15 = .ok (.aload_n 0, 1) := by decide +kernel
theorem dX12_here_16 : decode cX12_here 16 = .ok (.getfield 122, 3) := by decide +kernel
theorem dX12_here_19 : decode cX12_here 19 = .ok (.aload_n 0, 1) := by decide +kernel
theorem dX12_here_20 : decode cX12_here 20 = .ok (.getfield 116, 3) := by decide +kernel
theorem dX12_here_23 : decode cX12_here 23 = .ok (.iadd, 1) := by decide +kernel
theorem dX12_here_24 : decode cX12_here 24 = .ok (.baload, 1) := by decide +kernel
theorem dX12_here_25 : decode cX12_here 25 = .ok (.sipush 255, 3) := by decide +kernel
theorem dX12_here_28 : decode cX12_here 28 = .ok (.iand, 1) := by decide +kernel
theorem dX12_here_29 : decode cX12_here 29 = .ok (.goto 4, 3) := by decide +kernel
theorem dX12_here_32 : decode cX12_here 32 = .ok (.iconst (-1), 1) := by decide +kernel
theorem dX12_here_33 : decode cX12_here 33 = .ok (.ireturn, 1) := by decide +kernel
def X12_here (h : Mm) : Option Int32 := (if (h.1 251 9) ≤ (h.1 251 10) then (some (-1)) else (bp (txt (h.1 251 5)) (fun t2 => (if inB ((h.1 251 8) + (h.1 251 10)) (aln t2) then (some ((h.1 t2 ((h.1 251 8) + (h.1 251 10)).toNatClampNeg) &&& (255))) else none))))
set_option maxRecDepth 100000 in
set_option maxHeartbeats 4000000 in
theorem s_X12_here {X : WX} {o : Mm} {rv : Int32} {h : Mm} (hF : X12_here h = some rv) : Sat X yX12_here cX12_here 1 (some .int) 1 [.ref (xa X 251)] false o h (some (.int rv)) h := by
  unfold X12_here at hF
  refine Sat.mk (own := RX12) rfl (by decide +kernel) (Nat.le_of_ble_eq_true rfl) (fun G => ?_)
  refine V.sub (lv2 := [(0, _)]) [0] rfl ?_
  refine V.aload_n 0 dX12_here_0 rfl rfl ?_
  refine V.getI fl_X12_116 sh_251 rfl km_251 dX12_here_1 ?_
  refine V.aload_n 0 dX12_here_4 rfl rfl ?_
  refine V.getI fl_X12_119 sh_251 rfl km_251 dX12_here_5 ?_
  refine V.icmp_ge (tgt := 32) dX12_here_8 rfl (fun c => ?_) (fun c => ?_)
  · replace hF := (if_pos c).symm.trans hF
    refine V.iconst (v := -1) dX12_here_32 rfl ?_
    cases hF
    exact V.iret dX12_here_33
  · replace hF := (if_neg c).symm.trans hF
    refine V.aload_n 0 dX12_here_11 rfl rfl ?_
    obtain ⟨t2, htt2, hF⟩ := bp_s hF
    refine V.getN fl_X12_23 sh_251 rfl km_251 t2 (txt_s htt2).1 (txt_s htt2).2.lt2 dX12_here_12 ?_
    refine V.aload_n 0 dX12_here_15 rfl rfl ?_
    refine V.getI fl_X12_122 sh_251 rfl km_251 dX12_here_16 ?_
    refine V.aload_n 0 dX12_here_19 rfl rfl ?_
    refine V.getI fl_X12_116 sh_251 rfl km_251 dX12_here_20 ?_
    refine V.iadd dX12_here_23 ?_
    obtain ⟨hk, hF⟩ := ck hF
    refine V.bald (txt_s htt2).2 hk dX12_here_24 ?_
    refine V.sipush (v := 255) dX12_here_25 (by decide) ?_
    refine V.iand dX12_here_28 ?_
    refine V.goto (tgt := 33) dX12_here_29 rfl ?_
    cases hF
    exact V.iret dX12_here_33
/-! MonsterCotModel.spotOf -/
theorem dX12_spotOf_0 : decode cX12_spotOf 0 = .ok (.iconst 0, 1) := by decide +kernel
theorem dX12_spotOf_1 : decode cX12_spotOf 1 = .ok (.istore_n 2, 1) := by decide +kernel
theorem dX12_spotOf_2 : decode cX12_spotOf 2 = .ok (.iload_n 2, 1) := by decide +kernel
theorem dX12_spotOf_3 : decode cX12_spotOf 3 = .ok (.aload_n 0, 1) := by decide +kernel
theorem dX12_spotOf_4 : decode cX12_spotOf 4 = .ok (.invokevirtual 96, 3) := by decide +kernel
theorem dX12_spotOf_7 : decode cX12_spotOf 7 = .ok (.if_icmp .ge 20, 3) := by decide +kernel
theorem dX12_spotOf_10 : decode cX12_spotOf 10 = .ok (.aload_n 0, 1) := by decide +kernel
theorem dX12_spotOf_11 : decode cX12_spotOf 11 = .ok (.iload_n 2, 1) := by decide +kernel
theorem dX12_spotOf_12 : decode cX12_spotOf 12 = .ok (.invokevirtual 102, 3) := by decide +kernel
theorem dX12_spotOf_15 : decode cX12_spotOf 15 = .ok (.iload_n 1, 1) := by decide +kernel
theorem dX12_spotOf_16 : decode cX12_spotOf 16 = .ok (.if_icmp .ne 5, 3) := by decide +kernel
theorem dX12_spotOf_19 : decode cX12_spotOf 19 = .ok (.iload_n 2, 1) := by decide +kernel
theorem dX12_spotOf_20 : decode cX12_spotOf 20 = .ok (.ireturn, 1) := by decide +kernel
theorem dX12_spotOf_21 : decode cX12_spotOf 21 = .ok (.iinc 2 1, 3) := by decide +kernel
theorem dX12_spotOf_24 : decode cX12_spotOf 24 = .ok (.goto (-22), 3) := by decide +kernel
theorem dX12_spotOf_27 : decode cX12_spotOf 27 = .ok (.iconst (-1), 1) := by decide +kernel
theorem dX12_spotOf_28 : decode cX12_spotOf 28 = .ok (.ireturn, 1) := by decide +kernel
def X12_spotOf_2 (n : Nat) (a0 : Nat) : Nat → Int32 → Int32 → Mm → Option Int32
  | 0, _, _, _ => none
  | f + 1, x1, x2, h => (bp (J0_length_8abf5 a0  h) (fun r9 => (if r9 ≤ x2 then (some (-1)) else (bp (J0_charAt_5068e a0 x2 h) (fun r11 => (if r11 = x1 then (some x2) else ((X12_spotOf_2 n a0 f) x1 (x2 + (1)) h)))))))
set_option maxRecDepth 100000 in
set_option maxHeartbeats 4000000 in
theorem v_X12_spotOf_2 {X : WX} {G : GX} {o : Mm} {n : Nat} {a0 : Nat} {rv : Int32} {h : Mm} (ha0 : isS a0) : ∀ (f : Nat) (x1 : Int32) (x2 : Int32), X12_spotOf_2 n a0 f x1 x2 h = some rv → V X G RX12 cX12_spotOf 3 (some .int) 5 0 0 (QR X G false o (some (.int rv)) h) false o 2 [(0, .ref (xa X a0)), (1, .int x1), (2, .int x2)] [] h := by
  intro f
  induction f with
  | zero => intro x1 x2 hF; exact nomatch (show (none : Option Int32) = some rv from hF)
  | succ f ih =>
    intro x1 x2 hF
    unfold X12_spotOf_2 at hF
    refine V.iload_n 2 dX12_spotOf_2 rfl rfl ?_
    refine V.aload_n 0 dX12_spotOf_3 rfl rfl ?_
    obtain ⟨r9, hc10, hF⟩ := bp_s hF
    refine V.callTi mf_J0_length_8abf5 ml_X12_96 ha0 (s_J0_length_8abf5 ha0 hc10) (by decide) rfl rfl (Nat.le_of_ble_eq_true rfl) dX12_spotOf_4 ?_
    refine V.icmp_ge (tgt := 27) dX12_spotOf_7 rfl (fun c => ?_) (fun c => ?_)
    · replace hF := (if_pos c).symm.trans hF
      refine V.iconst (v := -1) dX12_spotOf_27 rfl ?_
      cases hF
      exact V.iret dX12_spotOf_28
    · replace hF := (if_neg c).symm.trans hF
      refine V.aload_n 0 dX12_spotOf_10 rfl rfl ?_
      refine V.iload_n 2 dX12_spotOf_11 rfl rfl ?_
      obtain ⟨r11, hc12, hF⟩ := bp_s hF
      refine V.callTi mf_J0_charAt_5068e ml_X12_102 ha0 (s_J0_charAt_5068e ha0 hc12) (by decide) rfl rfl (Nat.le_of_ble_eq_true rfl) dX12_spotOf_12 ?_
      refine V.iload_n 1 dX12_spotOf_15 rfl rfl ?_
      refine V.icmp_ne (tgt := 21) dX12_spotOf_16 rfl (fun c => ?_) (fun c => ?_)
      · replace hF := (if_neg c).symm.trans hF
        refine V.iinc (v := (x2 + (1))) 2 [(2, _), (0, _), (1, _)] dX12_spotOf_21 rfl rfl (by decide) rfl ?_
        refine V.goto (tgt := 2) dX12_spotOf_24 rfl ?_
        exact V.sub [1, 2, 0] rfl (ih _ _ hF)
      · replace hF := (if_pos c).symm.trans hF
        refine V.iload_n 2 dX12_spotOf_19 rfl rfl ?_
        cases hF
        exact V.iret dX12_spotOf_20
def X12_spotOf (n : Nat) (a0 : Nat) (x1 : Int32) (h : Mm) : Option Int32 := (X12_spotOf_2 n a0 n x1 (0) h)
set_option maxRecDepth 100000 in
set_option maxHeartbeats 4000000 in
theorem s_X12_spotOf {X : WX} {o : Mm} {n : Nat} {a0 : Nat} {x1 : Int32} {rv : Int32} {h : Mm} (ha0 : isS a0) (hF : X12_spotOf n a0 x1 h = some rv) : Sat X yX12_spotOf cX12_spotOf 3 (some .int) 5 [.ref (xa X a0), .int x1] false o h (some (.int rv)) h := by
  unfold X12_spotOf at hF
  refine Sat.mk (own := RX12) rfl (by decide +kernel) (Nat.le_of_ble_eq_true rfl) (fun G => ?_)
  refine V.sub (lv2 := [(0, _), (1, _)]) [0, 1] rfl ?_
  refine V.iconst (v := 0) dX12_spotOf_0 rfl ?_
  refine V.istore_n [(2, _), (0, _), (1, _)] dX12_spotOf_1 rfl (by decide) rfl ?_
  exact V.sub [1, 2, 0] rfl (v_X12_spotOf_2 ha0 n _ _ hF)
/-! MonsterCotModel.number -/
theorem dX12_number_0 : decode cX12_number 0 = .ok (.aload_n 0, 1) := by decide +kernel
theorem dX12_number_1 : decode cX12_number 1 = .ok (.invokevirtual 135, 3) := by decide +kernel
theorem dX12_number_4 : decode cX12_number 4 = .ok (.istore_n 3, 1) := by decide +kernel
theorem dX12_number_5 : decode cX12_number 5 = .ok (.aload_n 0, 1) := by decide +kernel
theorem dX12_number_6 : decode cX12_number 6 = .ok (.invokevirtual 165, 3) := by decide +kernel
theorem dX12_number_9 : decode cX12_number 9 = .ok (.ifCond .ne 10, 3) := by decide +kernel
theorem dX12_number_12 : decode cX12_number 12 = .ok (.aload_n 0, 1) := by decide +kernel
theorem dX12_number_13 : decode cX12_number 13 = .ok (.invokevirtual 131, 3) := by decide +kernel
theorem dX12_number_16 : decode cX12_number 16 = .ok (.pop, 1) := by decide +kernel
theorem dX12_number_17 : decode cX12_number 17 = .ok (.iconst 0, 1) := by decide +kernel
theorem dX12_number_18 : decode cX12_number 18 = .ok (.ireturn, 1) := by decide +kernel
theorem dX12_number_19 : decode cX12_number 19 = .ok (.iload_n 3, 1) := by decide +kernel
theorem dX12_number_20 : decode cX12_number 20 = .ok (.bipush 48, 2) := by decide +kernel
theorem dX12_number_22 : decode cX12_number 22 = .ok (.isub, 1) := by decide +kernel
theorem dX12_number_23 : decode cX12_number 23 = .ok (.istore 4, 2) := by decide +kernel
theorem dX12_number_25 : decode cX12_number 25 = .ok (.aload_n 0, 1) := by decide +kernel
theorem dX12_number_26 : decode cX12_number 26 = .ok (.dup, 1) := by decide +kernel
theorem dX12_number_27 : decode cX12_number 27 = .ok (.getfield 116, 3) := by decide +kernel
theorem dX12_number_30 : decode cX12_number 30 = .ok (.iconst 1, 1) := by decide +kernel
theorem dX12_number_31 : decode cX12_number 31 = .ok (.iadd, 1) := by decide +kernel
theorem dX12_number_32 : decode cX12_number 32 = .ok (.putfield 116, 3) := by decide +kernel
theorem dX12_number_35 : decode cX12_number 35 = .ok (.aload_n 0, 1) := by decide +kernel
theorem dX12_number_36 : decode cX12_number 36 = .ok (.invokevirtual 165, 3) := by decide +kernel
theorem dX12_number_39 : decode cX12_number 39 = .ok (.ifCond .eq 28, 3) := by decide +kernel
theorem dX12_number_42 : decode cX12_number 42 = .ok (.bipush 10, 2) := by decide +kernel
theorem dX12_number_44 : decode cX12_number 44 = .ok (.iload 4, 2) := by decide +kernel
theorem dX12_number_46 : decode cX12_number 46 = .ok (.imul, 1) := by decide +kernel
theorem dX12_number_47 : decode cX12_number 47 = .ok (.aload_n 0, 1) := by decide +kernel
theorem dX12_number_48 : decode cX12_number 48 = .ok (.invokevirtual 211, 3) := by decide +kernel
theorem dX12_number_51 : decode cX12_number 51 = .ok (.iadd, 1) := by decide +kernel
theorem dX12_number_52 : decode cX12_number 52 = .ok (.bipush 48, 2) := by decide +kernel
theorem dX12_number_54 : decode cX12_number 54 = .ok (.isub, 1) := by decide +kernel
theorem dX12_number_55 : decode cX12_number 55 = .ok (.istore 4, 2) := by decide +kernel
theorem dX12_number_57 : decode cX12_number 57 = .ok (.aload_n 0, 1) := by decide +kernel
theorem dX12_number_58 : decode cX12_number 58 = .ok (.dup, 1) := by decide +kernel
theorem dX12_number_59 : decode cX12_number 59 = .ok (.getfield 116, 3) := by decide +kernel
theorem dX12_number_62 : decode cX12_number 62 = .ok (.iconst 1, 1) := by decide +kernel
theorem dX12_number_63 : decode cX12_number 63 = .ok (.iadd, 1) := by decide +kernel
theorem dX12_number_64 : decode cX12_number 64 = .ok (.putfield 116, 3) := by decide +kernel
theorem dX12_number_67 : decode cX12_number 67 = .ok (.aload_n 0, 1) := by decide +kernel
theorem dX12_number_68 : decode cX12_number 68 = .ok (.invokevirtual 165, 3) := by decide +kernel
theorem dX12_number_71 : decode cX12_number 71 = .ok (.ifCond .eq 10, 3) := by decide +kernel
theorem dX12_number_74 : decode cX12_number 74 = .ok (.aload_n 0, 1) := by decide +kernel
theorem dX12_number_75 : decode cX12_number 75 = .ok (.invokevirtual 131, 3) := by decide +kernel
theorem dX12_number_78 : decode cX12_number 78 = .ok (.pop, 1) := by decide +kernel
theorem dX12_number_79 : decode cX12_number 79 = .ok (.iconst 0, 1) := by decide +kernel
theorem dX12_number_80 : decode cX12_number 80 = .ok (.ireturn, 1) := by decide +kernel
theorem dX12_number_81 : decode cX12_number 81 = .ok (.iload 4, 2) := by decide +kernel
theorem dX12_number_83 : decode cX12_number 83 = .ok (.i2l, 1) := by decide +kernel
theorem dX12_number_84 : decode cX12_number 84 = .ok (.iload_n 1, 1) := by decide +kernel
theorem dX12_number_85 : decode cX12_number 85 = .ok (.i2l, 1) := by decide +kernel
theorem dX12_number_86 : decode cX12_number 86 = .ok (.iload_n 2, 1) := by decide +kernel
theorem dX12_number_87 : decode cX12_number 87 = .ok (.i2l, 1) := by decide +kernel
theorem dX12_number_88 : decode cX12_number 88 = .ok (.invokestatic 214, 3) := by decide +kernel
theorem dX12_number_91 : decode cX12_number 91 = .ok (.ifCond .ne 18, 3) := by decide +kernel
theorem dX12_number_94 : decode cX12_number 94 = .ok (.aload_n 0, 1) := by decide +kernel
theorem dX12_number_95 : decode cX12_number 95 = .ok (.dup, 1) := by decide +kernel
theorem dX12_number_96 : decode cX12_number 96 = .ok (.getfield 116, 3) := by decide +kernel
theorem dX12_number_99 : decode cX12_number 99 = .ok (.iconst 1, 1) := by decide +kernel
theorem dX12_number_100 : decode cX12_number 100 = .ok (.isub, 1) := by decide +kernel
theorem dX12_number_101 : decode cX12_number 101 = .ok (.putfield 116, 3) := by decide +kernel
theorem dX12_number_104 : decode cX12_number 104 = .ok (.aload_n 0, 1) := by decide +kernel
theorem dX12_number_105 : decode cX12_number 105 = .ok (.invokevirtual 131, 3) := by decide +kernel
theorem dX12_number_108 : decode cX12_number 108 = .ok (.pop, 1) := by decide +kernel
theorem dX12_number_109 : decode cX12_number 109 = .ok (.iload 4, 2) := by decide +kernel
theorem dX12_number_111 : decode cX12_number 111 = .ok (.ireturn, 1) := by decide +kernel
def X12_number_109 (n : Nat) (x4 : Int32) (h : Mm) : Option (Int32 × Mm) := (some (x4, h))
set_option maxRecDepth 100000 in
set_option maxHeartbeats 4000000 in
theorem v_X12_number_109 {X : WX} {G : GX} {o : Mm} {n : Nat} {rv : Int32} {hz : Mm} {x4 : Int32} {h : Mm} (hF : X12_number_109 n x4 h = some (rv, hz)) : V X G RX12 cX12_number 5 (some .int) 2 0 0 (QR X G false o (some (.int rv)) hz) false o 109 [(4, .int x4)] [] h := by
  unfold X12_number_109 at hF
  refine V.iload 0 dX12_number_109 rfl ?_
  cases hF
  exact V.iret dX12_number_111
def X12_number_67 (n : Nat) (x1 : Int32) (x2 : Int32) (x4 : Int32) (h : Mm) : Option (Int32 × Mm) := (bp (X12_isDigit h) (fun r45 => (if r45 = true then (bd (X12_fails h) (fun r52 h54 => (some ((0), h54)))) else (bp (X12_isIn x4.toInt64 x1.toInt64 x2.toInt64 h) (fun r47 => (if r47 = true then (X12_number_109 n x4 h) else (bd (X12_fails (wI h 251 10 ((h.1 251 10) - (1)))) (fun r49 h51 => (X12_number_109 n x4 h51)))))))))
set_option maxRecDepth 100000 in
set_option maxHeartbeats 4000000 in
theorem v_X12_number_67 {X : WX} {G : GX} {o : Mm} {n : Nat} {rv : Int32} {hz : Mm} {x1 : Int32} {x2 : Int32} {x4 : Int32} {h : Mm} (hF : X12_number_67 n x1 x2 x4 h = some (rv, hz)) : V X G RX12 cX12_number 5 (some .int) 2 0 0 (QR X G false o (some (.int rv)) hz) false o 67 [(0, .ref (xa X 251)), (1, .int x1), (2, .int x2), (4, .int x4)] [] h := by
  unfold X12_number_67 at hF
  refine V.aload_n 0 dX12_number_67 rfl rfl ?_
  obtain ⟨r45, hc46, hF⟩ := bp_s hF
  refine V.callVi mf_X12_isDigit ml_X12_165 sh_251 (s_X12_isDigit hc46) (by decide) rfl rfl (Nat.le_of_ble_eq_true rfl) dX12_number_68 ?_
  refine V.ifz_eq (tgt := 81) dX12_number_71 rfl (fun c => ?_) (fun c => ?_)
  · replace hF := (if_neg c).symm.trans hF
    refine V.iload 3 dX12_number_81 rfl ?_
    refine V.i2l dX12_number_83 ?_
    refine V.iload_n 1 dX12_number_84 rfl rfl ?_
    refine V.i2l dX12_number_85 ?_
    refine V.iload_n 2 dX12_number_86 rfl rfl ?_
    refine V.i2l dX12_number_87 ?_
    obtain ⟨r47, hc48, hF⟩ := bp_s hF
    refine V.callSi mf_X12_isIn ml_X12_214 (s_X12_isIn hc48) (by decide) rfl rfl (Nat.le_of_ble_eq_true rfl) dX12_number_88 ?_
    refine V.ifz_ne (tgt := 109) dX12_number_91 rfl (fun c => ?_) (fun c => ?_)
    · replace hF := (if_pos c).symm.trans hF
      exact V.sub [3] rfl (v_X12_number_109 hF)
    · replace hF := (if_neg c).symm.trans hF
      refine V.aload_n 0 dX12_number_94 rfl rfl ?_
      refine V.dup dX12_number_95 rfl ?_
      refine V.getI fl_X12_116 sh_251 rfl km_251 dX12_number_96 ?_
      refine V.iconst (v := 1) dX12_number_99 rfl ?_
      refine V.isub dX12_number_100 ?_
      refine V.putI fl_X12_116 rfl (tyX12_ok 10 (by decide)) rfl rfl sh_251 rfl km_251 dX12_number_101 ?_
      refine V.aload_n 0 dX12_number_104 rfl rfl ?_
      obtain ⟨r49, h51, hc50, hF⟩ := bd_s hF
      refine V.callVi mf_X12_fails ml_X12_131 sh_251 (s_X12_fails hc50) (by decide) rfl rfl (Nat.le_of_ble_eq_true rfl) dX12_number_105 ?_
      refine V.pop dX12_number_108 rfl ?_
      exact V.sub [3] rfl (v_X12_number_109 hF)
  · replace hF := (if_pos c).symm.trans hF
    refine V.aload_n 0 dX12_number_74 rfl rfl ?_
    obtain ⟨r52, h54, hc53, hF⟩ := bd_s hF
    refine V.callVi mf_X12_fails ml_X12_131 sh_251 (s_X12_fails hc53) (by decide) rfl rfl (Nat.le_of_ble_eq_true rfl) dX12_number_75 ?_
    refine V.pop dX12_number_78 rfl ?_
    refine V.iconst (v := 0) dX12_number_79 rfl ?_
    cases hF
    exact V.iret dX12_number_80
def X12_number (n : Nat) (x1 : Int32) (x2 : Int32) (h : Mm) : Option (Int32 × Mm) := (bd (X12_look n h) (fun r55 h57 => (bp (X12_isDigit h57) (fun r58 => (if r58 = true then (bp (X12_isDigit (wI h57 251 10 ((h57.1 251 10) + (1)))) (fun r60 => (if r60 = true then (bp (X12_here (wI h57 251 10 ((h57.1 251 10) + (1)))) (fun r62 => (X12_number_67 n x1 x2 ((((10) * (r55 - (48))) + r62) - (48)) (wI (wI h57 251 10 ((h57.1 251 10) + (1))) 251 10 (((wI h57 251 10 ((h57.1 251 10) + (1))).1 251 10) + (1)))))) else (X12_number_67 n x1 x2 (r55 - (48)) (wI h57 251 10 ((h57.1 251 10) + (1))))))) else (bd (X12_fails h57) (fun r64 h66 => (some ((0), h66)))))))))
set_option maxRecDepth 100000 in
set_option maxHeartbeats 4000000 in
theorem s_X12_number {X : WX} {o : Mm} {n : Nat} {x1 : Int32} {x2 : Int32} {rv : Int32} {hz : Mm} {h : Mm} (hF : X12_number n x1 x2 h = some (rv, hz)) : Sat X yX12_number cX12_number 5 (some .int) 2 [.ref (xa X 251), .int x1, .int x2] false o h (some (.int rv)) hz := by
  unfold X12_number at hF
  refine Sat.mk (own := RX12) rfl (by decide +kernel) (Nat.le_of_ble_eq_true rfl) (fun G => ?_)
  refine V.sub (lv2 := [(0, _), (1, _), (2, _)]) [0, 1, 2] rfl ?_
  refine V.aload_n 0 dX12_number_0 rfl rfl ?_
  obtain ⟨r55, h57, hc56, hF⟩ := bd_s hF
  refine V.callVi mf_X12_look ml_X12_135 sh_251 (s_X12_look hc56) (by decide) rfl rfl (Nat.le_of_ble_eq_true rfl) dX12_number_1 ?_
  refine V.istore_n [(3, _), (0, _), (1, _), (2, _)] dX12_number_4 rfl (by decide) rfl ?_
  refine V.aload_n 1 dX12_number_5 rfl rfl ?_
  obtain ⟨r58, hc59, hF⟩ := bp_s hF
  refine V.callVi mf_X12_isDigit ml_X12_165 sh_251 (s_X12_isDigit hc59) (by decide) rfl rfl (Nat.le_of_ble_eq_true rfl) dX12_number_6 ?_
  refine V.ifz_ne (tgt := 19) dX12_number_9 rfl (fun c => ?_) (fun c => ?_)
  · replace hF := (if_pos c).symm.trans hF
    refine V.iload_n 0 dX12_number_19 rfl rfl ?_
    refine V.bipush (v := 48) dX12_number_20 (by decide) ?_
    refine V.isub dX12_number_22 ?_
    refine V.istore [(4, _), (3, _), (0, _), (1, _), (2, _)] dX12_number_23 (by decide) rfl ?_
    refine V.aload_n 2 dX12_number_25 rfl rfl ?_
    refine V.dup dX12_number_26 rfl ?_
    refine V.getI fl_X12_116 sh_251 rfl km_251 dX12_number_27 ?_
    refine V.iconst (v := 1) dX12_number_30 rfl ?_
    refine V.iadd dX12_number_31 ?_
    refine V.putI fl_X12_116 rfl (tyX12_ok 10 (by decide)) rfl rfl sh_251 rfl km_251 dX12_number_32 ?_
    refine V.aload_n 2 dX12_number_35 rfl rfl ?_
    obtain ⟨r60, hc61, hF⟩ := bp_s hF
    refine V.callVi mf_X12_isDigit ml_X12_165 sh_251 (s_X12_isDigit hc61) (by decide) rfl rfl (Nat.le_of_ble_eq_true rfl) dX12_number_36 ?_
    refine V.ifz_eq (tgt := 67) dX12_number_39 rfl (fun c => ?_) (fun c => ?_)
    · replace hF := (if_neg c).symm.trans hF
      exact V.sub [2, 3, 4, 0] rfl (v_X12_number_67 hF)
    · replace hF := (if_pos c).symm.trans hF
      refine V.bipush (v := 10) dX12_number_42 (by decide) ?_
      refine V.iload 0 dX12_number_44 rfl ?_
      refine V.imul dX12_number_46 ?_
      refine V.aload_n 2 dX12_number_47 rfl rfl ?_
      obtain ⟨r62, hc63, hF⟩ := bp_s hF
      refine V.callVi mf_X12_here ml_X12_211 sh_251 (s_X12_here hc63) (by decide) rfl rfl (Nat.le_of_ble_eq_true rfl) dX12_number_48 ?_
      refine V.iadd dX12_number_51 ?_
      refine V.bipush (v := 48) dX12_number_52 (by decide) ?_
      refine V.isub dX12_number_54 ?_
      refine V.istore [(4, _), (3, _), (0, _), (1, _), (2, _)] dX12_number_55 (by decide) rfl ?_
      refine V.aload_n 2 dX12_number_57 rfl rfl ?_
      refine V.dup dX12_number_58 rfl ?_
      refine V.getI fl_X12_116 sh_251 rfl km_251 dX12_number_59 ?_
      refine V.iconst (v := 1) dX12_number_62 rfl ?_
      refine V.iadd dX12_number_63 ?_
      refine V.putI fl_X12_116 rfl (tyX12_ok 10 (by decide)) rfl rfl sh_251 rfl km_251 dX12_number_64 ?_
      exact V.sub [2, 3, 4, 0] rfl (v_X12_number_67 hF)
  · replace hF := (if_neg c).symm.trans hF
    refine V.aload_n 1 dX12_number_12 rfl rfl ?_
    obtain ⟨r64, h66, hc65, hF⟩ := bd_s hF
    refine V.callVi mf_X12_fails ml_X12_131 sh_251 (s_X12_fails hc65) (by decide) rfl rfl (Nat.le_of_ble_eq_true rfl) dX12_number_13 ?_
    refine V.pop dX12_number_16 rfl ?_
    refine V.iconst (v := 0) dX12_number_17 rfl ?_
    cases hF
    exact V.iret dX12_number_18
/-! MonsterCotModel.mostOf -/
theorem dX12_mostOf_0 : decode cX12_mostOf 0 = .ok (.iload_n 0, 1) := by decide +kernel
theorem dX12_mostOf_1 : decode cX12_mostOf 1 = .ok (.bipush 115, 2) := by decide +kernel
theorem dX12_mostOf_3 : decode cX12_mostOf 3 = .ok (.if_icmp .ne 16, 3) := by decide +kernel
theorem dX12_mostOf_6 : decode cX12_mostOf 6 = .ok (.iload_n 1, 1) := by decide +kernel
theorem dX12_mostOf_7 : decode cX12_mostOf 7 = .ok (.iconst 2, 1) := by decide +kernel
theorem dX12_mostOf_8 : decode cX12_mostOf 8 = .ok (.if_icmp .ne 8, 3) := by decide +kernel
theorem dX12_mostOf_11 : decode cX12_mostOf 11 = .ok (.bipush 30, 2) := by decide +kernel
theorem dX12_mostOf_13 : decode cX12_mostOf 13 = .ok (.goto 5, 3) := by decide +kernel
theorem dX12_mostOf_16 : decode cX12_mostOf 16 = .ok (.bipush 99, 2) := by decide +kernel
theorem dX12_mostOf_18 : decode cX12_mostOf 18 = .ok (.ireturn, 1) := by decide +kernel
theorem dX12_mostOf_19 : decode cX12_mostOf 19 = .ok (.iload_n 0, 1) := by decide +kernel
theorem dX12_mostOf_20 : decode cX12_mostOf 20 = .ok (.bipush 98, 2) := by decide +kernel
theorem dX12_mostOf_22 : decode cX12_mostOf 22 = .ok (.if_icmp .ne 15, 3) := by decide +kernel
theorem dX12_mostOf_25 : decode cX12_mostOf 25 = .ok (.iload_n 1, 1) := by decide +kernel
theorem dX12_mostOf_26 : decode cX12_mostOf 26 = .ok (.iconst 2, 1) := by decide +kernel
theorem dX12_mostOf_27 : decode cX12_mostOf 27 = .ok (.if_icmp .ne 7, 3) := by decide +kernel
theorem dX12_mostOf_30 : decode cX12_mostOf 30 = .ok (.iconst 3, 1) := by decide +kernel
theorem dX12_mostOf_31 : decode cX12_mostOf 31 = .ok (.goto 5, 3) := by decide +kernel
theorem dX12_mostOf_34 : decode cX12_mostOf 34 = .ok (.bipush 9, 2) := by decide +kernel
theorem dX12_mostOf_36 : decode cX12_mostOf 36 = .ok (.ireturn, 1) := by decide +kernel
theorem dX12_mostOf_37 : decode cX12_mostOf 37 = .ok (.iload_n 1, 1) := by decide +kernel
theorem dX12_mostOf_38 : decode cX12_mostOf 38 = .ok (.iconst 1, 1) := by decide +kernel
theorem dX12_mostOf_39 : decode cX12_mostOf 39 = .ok (.if_icmp .ne 8, 3) := by decide +kernel
theorem dX12_mostOf_42 : decode cX12_mostOf 42 = .ok (.bipush 40, 2) := by decide +kernel
theorem dX12_mostOf_44 : decode cX12_mostOf 44 = .ok (.goto 5, 3) := by decide +kernel
theorem dX12_mostOf_47 : decode cX12_mostOf 47 = .ok (.bipush 9, 2) := by decide +kernel
theorem dX12_mostOf_49 : decode cX12_mostOf 49 = .ok (.ireturn, 1) := by decide +kernel
def X12_mostOf (x0 : Int32) (x1 : Int32) (h : Mm) : Option Int32 := (if x0 = (115) then (if x1 = (2) then (some (30)) else (some (99))) else (if x0 = (98) then (if x1 = (2) then (some (3)) else (some (9))) else (if x1 = (1) then (some (40)) else (some (9)))))
set_option maxRecDepth 100000 in
set_option maxHeartbeats 4000000 in
theorem s_X12_mostOf {X : WX} {o : Mm} {x0 : Int32} {x1 : Int32} {rv : Int32} {h : Mm} (hF : X12_mostOf x0 x1 h = some rv) : Sat X yX12_mostOf cX12_mostOf 2 (some .int) 1 [.int x0, .int x1] false o h (some (.int rv)) h := by
  unfold X12_mostOf at hF
  refine Sat.mk (own := RX12) rfl (by decide +kernel) (Nat.le_of_ble_eq_true rfl) (fun G => ?_)
  refine V.sub (lv2 := [(0, _), (1, _)]) [0, 1] rfl ?_
  refine V.iload_n 0 dX12_mostOf_0 rfl rfl ?_
  refine V.bipush (v := 115) dX12_mostOf_1 (by decide) ?_
  refine V.icmp_ne (tgt := 19) dX12_mostOf_3 rfl (fun c => ?_) (fun c => ?_)
  · replace hF := (if_neg c).symm.trans hF
    refine V.iload_n 0 dX12_mostOf_19 rfl rfl ?_
    refine V.bipush (v := 98) dX12_mostOf_20 (by decide) ?_
    refine V.icmp_ne (tgt := 37) dX12_mostOf_22 rfl (fun c => ?_) (fun c => ?_)
    · replace hF := (if_neg c).symm.trans hF
      refine V.iload_n 1 dX12_mostOf_37 rfl rfl ?_
      refine V.iconst (v := 1) dX12_mostOf_38 rfl ?_
      refine V.icmp_ne (tgt := 47) dX12_mostOf_39 rfl (fun c => ?_) (fun c => ?_)
      · replace hF := (if_neg c).symm.trans hF
        refine V.bipush (v := 9) dX12_mostOf_47 (by decide) ?_
        cases hF
        exact V.iret dX12_mostOf_49
      · replace hF := (if_pos c).symm.trans hF
        refine V.bipush (v := 40) dX12_mostOf_42 (by decide) ?_
        refine V.goto (tgt := 49) dX12_mostOf_44 rfl ?_
        cases hF
        exact V.iret dX12_mostOf_49
    · replace hF := (if_pos c).symm.trans hF
      refine V.iload_n 1 dX12_mostOf_25 rfl rfl ?_
      refine V.iconst (v := 2) dX12_mostOf_26 rfl ?_
      refine V.icmp_ne (tgt := 34) dX12_mostOf_27 rfl (fun c => ?_) (fun c => ?_)
      · replace hF := (if_neg c).symm.trans hF
        refine V.bipush (v := 9) dX12_mostOf_34 (by decide) ?_
        cases hF
        exact V.iret dX12_mostOf_36
      · replace hF := (if_pos c).symm.trans hF
        refine V.iconst (v := 3) dX12_mostOf_30 rfl ?_
        refine V.goto (tgt := 36) dX12_mostOf_31 rfl ?_
        cases hF
        exact V.iret dX12_mostOf_36
  · replace hF := (if_pos c).symm.trans hF
    refine V.iload_n 1 dX12_mostOf_6 rfl rfl ?_
    refine V.iconst (v := 2) dX12_mostOf_7 rfl ?_
    refine V.icmp_ne (tgt := 16) dX12_mostOf_8 rfl (fun c => ?_) (fun c => ?_)
    · replace hF := (if_neg c).symm.trans hF
      refine V.bipush (v := 99) dX12_mostOf_16 (by decide) ?_
      cases hF
      exact V.iret dX12_mostOf_18
    · replace hF := (if_pos c).symm.trans hF
      refine V.bipush (v := 30) dX12_mostOf_11 (by decide) ?_
      refine V.goto (tgt := 18) dX12_mostOf_13 rfl ?_
      cases hF
      exact V.iret dX12_mostOf_18
/-! MonsterCotModel.leastOf -/
theorem dX12_leastOf_0 : decode cX12_leastOf 0 = .ok (.iload_n 0, 1) := by decide +kernel
theorem dX12_leastOf_1 : decode cX12_leastOf 1 = .ok (.bipush 98, 2) := by decide +kernel
theorem dX12_leastOf_3 : decode cX12_leastOf 3 = .ok (.if_icmp .ne 15, 3) := by decide +kernel
theorem dX12_leastOf_6 : decode cX12_leastOf 6 = .ok (.iload_n 1, 1) := by decide +kernel
theorem dX12_leastOf_7 : decode cX12_leastOf 7 = .ok (.ifCond .ne 7, 3) := by decide +kernel
theorem dX12_leastOf_10 : decode cX12_leastOf 10 = .ok (.iconst 1, 1) := by decide +kernel
theorem dX12_leastOf_11 : decode cX12_leastOf 11 = .ok (.goto 17, 3) := by decide +kernel
theorem dX12_leastOf_14 : decode cX12_leastOf 14 = .ok (.iconst 0, 1) := by decide +kernel
theorem dX12_leastOf_15 : decode cX12_leastOf 15 = .ok (.goto 13, 3) := by decide +kernel
theorem dX12_leastOf_18 : decode cX12_leastOf 18 = .ok (.iload_n 1, 1) := by decide +kernel
theorem dX12_leastOf_19 : decode cX12_leastOf 19 = .ok (.iconst 1, 1) := by decide +kernel
theorem dX12_leastOf_20 : decode cX12_leastOf 20 = .ok (.if_icmp .ne 7, 3) := by decide +kernel
theorem dX12_leastOf_23 : decode cX12_leastOf 23 = .ok (.iconst 1, 1) := by decide +kernel
theorem dX12_leastOf_24 : decode cX12_leastOf 24 = .ok (.goto 4, 3) := by decide +kernel
theorem dX12_leastOf_27 : decode cX12_leastOf 27 = .ok (.iconst 0, 1) := by decide +kernel
theorem dX12_leastOf_28 : decode cX12_leastOf 28 = .ok (.ireturn, 1) := by decide +kernel
def X12_leastOf (x0 : Int32) (x1 : Int32) (h : Mm) : Option Int32 := (if x0 = (98) then (if x1 = 0 then (some (1)) else (some (0))) else (if x1 = (1) then (some (1)) else (some (0))))
set_option maxRecDepth 100000 in
set_option maxHeartbeats 4000000 in
theorem s_X12_leastOf {X : WX} {o : Mm} {x0 : Int32} {x1 : Int32} {rv : Int32} {h : Mm} (hF : X12_leastOf x0 x1 h = some rv) : Sat X yX12_leastOf cX12_leastOf 2 (some .int) 1 [.int x0, .int x1] false o h (some (.int rv)) h := by
  unfold X12_leastOf at hF
  refine Sat.mk (own := RX12) rfl (by decide +kernel) (Nat.le_of_ble_eq_true rfl) (fun G => ?_)
  refine V.sub (lv2 := [(0, _), (1, _)]) [0, 1] rfl ?_
  refine V.iload_n 0 dX12_leastOf_0 rfl rfl ?_
  refine V.bipush (v := 98) dX12_leastOf_1 (by decide) ?_
  refine V.icmp_ne (tgt := 18) dX12_leastOf_3 rfl (fun c => ?_) (fun c => ?_)
  · replace hF := (if_neg c).symm.trans hF
    refine V.iload_n 1 dX12_leastOf_18 rfl rfl ?_
    refine V.iconst (v := 1) dX12_leastOf_19 rfl ?_
    refine V.icmp_ne (tgt := 27) dX12_leastOf_20 rfl (fun c => ?_) (fun c => ?_)
    · replace hF := (if_neg c).symm.trans hF
      refine V.iconst (v := 0) dX12_leastOf_27 rfl ?_
      cases hF
      exact V.iret dX12_leastOf_28
    · replace hF := (if_pos c).symm.trans hF
      refine V.iconst (v := 1) dX12_leastOf_23 rfl ?_
      refine V.goto (tgt := 28) dX12_leastOf_24 rfl ?_
      cases hF
      exact V.iret dX12_leastOf_28
  · replace hF := (if_pos c).symm.trans hF
    refine V.iload_n 1 dX12_leastOf_6 rfl rfl ?_
    refine V.if_ne (tgt := 14) dX12_leastOf_7 rfl (fun c => ?_) (fun c => ?_)
    · replace hF := (if_neg c).symm.trans hF
      refine V.iconst (v := 0) dX12_leastOf_14 rfl ?_
      refine V.goto (tgt := 28) dX12_leastOf_15 rfl ?_
      cases hF
      exact V.iret dX12_leastOf_28
    · replace hF := (if_pos c).symm.trans hF
      refine V.iconst (v := 1) dX12_leastOf_10 rfl ?_
      refine V.goto (tgt := 28) dX12_leastOf_11 rfl ?_
      cases hF
      exact V.iret dX12_leastOf_28
/-! MonsterCotModel.usual -/
theorem dX12_usual_0 : decode cX12_usual 0 = .ok (.iload_n 0, 1) := by decide +kernel
theorem dX12_usual_1 : decode cX12_usual 1 = .ok (.bipush 115, 2) := by decide +kernel
theorem dX12_usual_3 : decode cX12_usual 3 = .ok (.if_icmp .ne 25, 3) := by decide +kernel
theorem dX12_usual_6 : decode cX12_usual 6 = .ok (.iload_n 1, 1) := by decide +kernel
theorem dX12_usual_7 : decode cX12_usual 7 = .ok (.ifCond .ne 8, 3) := by decide +kernel
theorem dX12_usual_10 : decode cX12_usual 10 = .ok (.bipush 10, 2) := by decide +kernel
theorem dX12_usual_12 : decode cX12_usual 12 = .ok (.goto 15, 3) := by decide +kernel
theorem dX12_usual_15 : decode cX12_usual 15 = .ok (.iload_n 1, 1) := by decide +kernel
theorem dX12_usual_16 : decode cX12_usual 16 = .ok (.iconst 1, 1) := by decide +kernel
theorem dX12_usual_17 : decode cX12_usual 17 = .ok (.if_icmp .ne 8, 3) := by decide +kernel
theorem dX12_usual_20 : decode cX12_usual 20 = .ok (.bipush 25, 2) := by decide +kernel
theorem dX12_usual_22 : decode cX12_usual 22 = .ok (.goto 5, 3) := by decide +kernel
theorem dX12_usual_25 : decode cX12_usual 25 = .ok (.bipush 8, 2) := by decide +kernel
theorem dX12_usual_27 : decode cX12_usual 27 = .ok (.ireturn, 1) := by decide +kernel
theorem dX12_usual_28 : decode cX12_usual 28 = .ok (.iload_n 0, 1) := by decide +kernel
theorem dX12_usual_29 : decode cX12_usual 29 = .ok (.bipush 98, 2) := by decide +kernel
theorem dX12_usual_31 : decode cX12_usual 31 = .ok (.if_icmp .ne 22, 3) := by decide +kernel
theorem dX12_usual_34 : decode cX12_usual 34 = .ok (.iload_n 1, 1) := by decide +kernel
theorem dX12_usual_35 : decode cX12_usual 35 = .ok (.ifCond .ne 7, 3) := by decide +kernel
theorem dX12_usual_38 : decode cX12_usual 38 = .ok (.iconst 4, 1) := by decide +kernel
theorem dX12_usual_39 : decode cX12_usual 39 = .ok (.goto 13, 3) := by decide +kernel
theorem dX12_usual_42 : decode cX12_usual 42 = .ok (.iload_n 1, 1) := by decide +kernel
theorem dX12_usual_43 : decode cX12_usual 43 = .ok (.iconst 1, 1) := by decide +kernel
theorem dX12_usual_44 : decode cX12_usual 44 = .ok (.if_icmp .ne 7, 3) := by decide +kernel
theorem dX12_usual_47 : decode cX12_usual 47 = .ok (.iconst 3, 1) := by decide +kernel
theorem dX12_usual_48 : decode cX12_usual 48 = .ok (.goto 4, 3) := by decide +kernel
theorem dX12_usual_51 : decode cX12_usual 51 = .ok (.iconst 0, 1) := by decide +kernel
theorem dX12_usual_52 : decode cX12_usual 52 = .ok (.ireturn, 1) := by decide +kernel
theorem dX12_usual_53 : decode cX12_usual 53 = .ok (.iload_n 1, 1) := by decide +kernel
theorem dX12_usual_54 : decode cX12_usual 54 = .ok (.ifCond .ne 7, 3) := by decide +kernel
theorem dX12_usual_57 : decode cX12_usual 57 = .ok (.iconst 2, 1) := by decide +kernel
theorem dX12_usual_58 : decode cX12_usual 58 = .ok (.goto 14, 3) := by decide +kernel
theorem dX12_usual_61 : decode cX12_usual 61 = .ok (.iload_n 1, 1) := by decide +kernel
theorem dX12_usual_62 : decode cX12_usual 62 = .ok (.iconst 1, 1) := by decide +kernel
theorem dX12_usual_63 : decode cX12_usual 63 = .ok (.if_icmp .ne 8, 3) := by decide +kernel
theorem dX12_usual_66 : decode cX12_usual 66 = .ok (.bipush 15, 2) := by decide +kernel
theorem dX12_usual_68 : decode cX12_usual 68 = .ok (.goto 4, 3) := by decide +kernel
theorem dX12_usual_71 : decode cX12_usual 71 = .ok (.iconst 5, 1) := by decide +kernel
theorem dX12_usual_72 : decode cX12_usual 72 = .ok (.ireturn, 1) := by decide +kernel
def X12_usual (x0 : Int32) (x1 : Int32) (h : Mm) : Option Int32 := (if x0 = (115) then (if x1 = 0 then (some (10)) else (if x1 = (1) then (some (25)) else (some (8)))) else (if x0 = (98) then (if x1 = 0 then (some (4)) else (if x1 = (1) then (some (3)) else (some (0)))) else (if x1 = 0 then (some (2)) else (if x1 = (1) then (some (15)) else (some (5))))))
set_option maxRecDepth 100000 in
set_option maxHeartbeats 4000000 in
theorem s_X12_usual {X : WX} {o : Mm} {x0 : Int32} {x1 : Int32} {rv : Int32} {h : Mm} (hF : X12_usual x0 x1 h = some rv) : Sat X yX12_usual cX12_usual 2 (some .int) 1 [.int x0, .int x1] false o h (some (.int rv)) h := by
  unfold X12_usual at hF
  refine Sat.mk (own := RX12) rfl (by decide +kernel) (Nat.le_of_ble_eq_true rfl) (fun G => ?_)
  refine V.sub (lv2 := [(0, _), (1, _)]) [0, 1] rfl ?_
  refine V.iload_n 0 dX12_usual_0 rfl rfl ?_
  refine V.bipush (v := 115) dX12_usual_1 (by decide) ?_
  refine V.icmp_ne (tgt := 28) dX12_usual_3 rfl (fun c => ?_) (fun c => ?_)
  · replace hF := (if_neg c).symm.trans hF
    refine V.iload_n 0 dX12_usual_28 rfl rfl ?_
    refine V.bipush (v := 98) dX12_usual_29 (by decide) ?_
    refine V.icmp_ne (tgt := 53) dX12_usual_31 rfl (fun c => ?_) (fun c => ?_)
    · replace hF := (if_neg c).symm.trans hF
      refine V.iload_n 1 dX12_usual_53 rfl rfl ?_
      refine V.if_ne (tgt := 61) dX12_usual_54 rfl (fun c => ?_) (fun c => ?_)
      · replace hF := (if_neg c).symm.trans hF
        refine V.iload_n 1 dX12_usual_61 rfl rfl ?_
        refine V.iconst (v := 1) dX12_usual_62 rfl ?_
        refine V.icmp_ne (tgt := 71) dX12_usual_63 rfl (fun c => ?_) (fun c => ?_)
        · replace hF := (if_neg c).symm.trans hF
          refine V.iconst (v := 5) dX12_usual_71 rfl ?_
          cases hF
          exact V.iret dX12_usual_72
        · replace hF := (if_pos c).symm.trans hF
          refine V.bipush (v := 15) dX12_usual_66 (by decide) ?_
          refine V.goto (tgt := 72) dX12_usual_68 rfl ?_
          cases hF
          exact V.iret dX12_usual_72
      · replace hF := (if_pos c).symm.trans hF
        refine V.iconst (v := 2) dX12_usual_57 rfl ?_
        refine V.goto (tgt := 72) dX12_usual_58 rfl ?_
        cases hF
        exact V.iret dX12_usual_72
    · replace hF := (if_pos c).symm.trans hF
      refine V.iload_n 1 dX12_usual_34 rfl rfl ?_
      refine V.if_ne (tgt := 42) dX12_usual_35 rfl (fun c => ?_) (fun c => ?_)
      · replace hF := (if_neg c).symm.trans hF
        refine V.iload_n 1 dX12_usual_42 rfl rfl ?_
        refine V.iconst (v := 1) dX12_usual_43 rfl ?_
        refine V.icmp_ne (tgt := 51) dX12_usual_44 rfl (fun c => ?_) (fun c => ?_)
        · replace hF := (if_neg c).symm.trans hF
          refine V.iconst (v := 0) dX12_usual_51 rfl ?_
          cases hF
          exact V.iret dX12_usual_52
        · replace hF := (if_pos c).symm.trans hF
          refine V.iconst (v := 3) dX12_usual_47 rfl ?_
          refine V.goto (tgt := 52) dX12_usual_48 rfl ?_
          cases hF
          exact V.iret dX12_usual_52
      · replace hF := (if_pos c).symm.trans hF
        refine V.iconst (v := 4) dX12_usual_38 rfl ?_
        refine V.goto (tgt := 52) dX12_usual_39 rfl ?_
        cases hF
        exact V.iret dX12_usual_52
  · replace hF := (if_pos c).symm.trans hF
    refine V.iload_n 1 dX12_usual_6 rfl rfl ?_
    refine V.if_ne (tgt := 15) dX12_usual_7 rfl (fun c => ?_) (fun c => ?_)
    · replace hF := (if_neg c).symm.trans hF
      refine V.iload_n 1 dX12_usual_15 rfl rfl ?_
      refine V.iconst (v := 1) dX12_usual_16 rfl ?_
      refine V.icmp_ne (tgt := 25) dX12_usual_17 rfl (fun c => ?_) (fun c => ?_)
      · replace hF := (if_neg c).symm.trans hF
        refine V.bipush (v := 8) dX12_usual_25 (by decide) ?_
        cases hF
        exact V.iret dX12_usual_27
      · replace hF := (if_pos c).symm.trans hF
        refine V.bipush (v := 25) dX12_usual_20 (by decide) ?_
        refine V.goto (tgt := 27) dX12_usual_22 rfl ?_
        cases hF
        exact V.iret dX12_usual_27
    · replace hF := (if_pos c).symm.trans hF
      refine V.bipush (v := 10) dX12_usual_10 (by decide) ?_
      refine V.goto (tgt := 27) dX12_usual_12 rfl ?_
      cases hF
      exact V.iret dX12_usual_27
/-! MonsterCotModel.readItems -/
theorem dX12_readItems_0 : decode cX12_readItems 0 = .ok (.iconst 0, 1) := by decide +kernel
theorem dX12_readItems_1 : decode cX12_readItems 1 = .ok (.istore 5, 2) := by decide +kernel
theorem dX12_readItems_3 : decode cX12_readItems 3 = .ok (.iload 5, 2) := by decide +kernel
theorem dX12_readItems_5 : decode cX12_readItems 5 = .ok (.aload 4, 2) := by decide +kernel
theorem dX12_readItems_7 : decode cX12_readItems 7 = .ok (.invokevirtual 96, 3) := by decide +kernel
theorem dX12_readItems_10 : decode cX12_readItems 10 = .ok (.if_icmp .ge 21, 3) := by decide +kernel
theorem dX12_readItems_13 : decode cX12_readItems 13 = .ok (.aload_n 2, 1) := by decide +kernel
theorem dX12_readItems_14 : decode cX12_readItems 14 = .ok (.iload_n 3, 1) := by decide +kernel
theorem dX12_readItems_15 : decode cX12_readItems 15 = .ok (.iload 5, 2) := by decide +kernel
theorem dX12_readItems_17 : decode cX12_readItems 17 = .ok (.iadd, 1) := by decide +kernel
theorem dX12_readItems_18 : decode cX12_readItems 18 = .ok (.iload_n 1, 1) := by decide +kernel
theorem dX12_readItems_19 : decode cX12_readItems 19 = .ok (.iload 5, 2) := by decide +kernel
theorem dX12_readItems_21 : decode cX12_readItems 21 = .ok (.invokestatic 218, 3) := by decide +kernel
theorem dX12_readItems_24 : decode cX12_readItems 24 = .ok (.iastore, 1) := by decide +kernel
theorem dX12_readItems_25 : decode cX12_readItems 25 = .ok (.iinc 5 1, 3) := by decide +kernel
theorem dX12_readItems_28 : decode cX12_readItems 28 = .ok (.goto (-25), 3) := by decide +kernel
theorem dX12_readItems_31 : decode cX12_readItems 31 = .ok (.iconst 0, 1) := by decide +kernel
theorem dX12_readItems_32 : decode cX12_readItems 32 = .ok (.istore 5, 2) := by decide +kernel
theorem dX12_readItems_34 : decode cX12_readItems 34 = .ok (.aload 4, 2) := by decide +kernel
theorem dX12_readItems_36 : decode cX12_readItems 36 = .ok (.aload_n 0, 1) := by decide +kernel
theorem dX12_readItems_37 : decode cX12_readItems 37 = .ok (.invokevirtual 135, 3) := by decide +kernel
theorem dX12_readItems_40 : decode cX12_readItems 40 = .ok (.invokestatic 222, 3) := by decide +kernel
theorem dX12_readItems_43 : decode cX12_readItems 43 = .ok (.istore 6, 2) := by decide +kernel
theorem dX12_readItems_45 : decode cX12_readItems 45 = .ok (.iload 6, 2) := by decide +kernel
theorem dX12_readItems_47 : decode cX12_readItems 47 = .ok (.iconst (-1), 1) := by decide +kernel
theorem dX12_readItems_48 : decode cX12_readItems 48 = .ok (.if_icmp .eq 90, 3) := by decide +kernel
theorem dX12_readItems_51 : decode cX12_readItems 51 = .ok (.aload_n 0, 1) := by decide +kernel
theorem dX12_readItems_52 : decode cX12_readItems 52 = .ok (.getfield 125, 3) := by decide +kernel
theorem dX12_readItems_55 : decode cX12_readItems 55 = .ok (.iconst (-1), 1) := by decide +kernel
theorem dX12_readItems_56 : decode cX12_readItems 56 = .ok (.if_icmp .ne 82, 3) := by decide +kernel
theorem dX12_readItems_59 : decode cX12_readItems 59 = .ok (.iload 5, 2) := by decide +kernel
theorem dX12_readItems_61 : decode cX12_readItems 61 = .ok (.iload 6, 2) := by decide +kernel
theorem dX12_readItems_63 : decode cX12_readItems 63 = .ok (.invokestatic 226, 3) := by decide +kernel
theorem dX12_readItems_66 : decode cX12_readItems 66 = .ok (.ifCond .eq 9, 3) := by decide +kernel
theorem dX12_readItems_69 : decode cX12_readItems 69 = .ok (.aload_n 0, 1) := by decide +kernel
theorem dX12_readItems_70 : decode cX12_readItems 70 = .ok (.invokevirtual 131, 3) := by decide +kernel
theorem dX12_readItems_73 : decode cX12_readItems 73 = .ok (.pop, 1) := by decide +kernel
theorem dX12_readItems_74 : decode cX12_readItems 74 = .ok (.return_, 1) := by decide +kernel
theorem dX12_readItems_75 : decode cX12_readItems 75 = .ok (.iload 5, 2) := by decide +kernel
theorem dX12_readItems_77 : decode cX12_readItems 77 = .ok (.iconst 1, 1) := by decide +kernel
theorem dX12_readItems_78 : decode cX12_readItems 78 = .ok (.iload 6, 2) := by decide +kernel
theorem dX12_readItems_80 : decode cX12_readItems 80 = .ok (.ishl, 1) := by decide +kernel
theorem dX12_readItems_81 : decode cX12_readItems 81 = .ok (.ior, 1) := by decide +kernel
theorem dX12_readItems_82 : decode cX12_readItems 82 = .ok (.istore 5, 2) := by decide +kernel
theorem dX12_readItems_84 : decode cX12_readItems 84 = .ok (.aload_n 0, 1) := by decide +kernel
theorem dX12_readItems_85 : decode cX12_readItems 85 = .ok (.dup, 1) := by decide +kernel
theorem dX12_readItems_86 : decode cX12_readItems 86 = .ok (.getfield 116, 3) := by decide +kernel
theorem dX12_readItems_89 : decode cX12_readItems 89 = .ok (.iconst 1, 1) := by decide +kernel
theorem dX12_readItems_90 : decode cX12_readItems 90 = .ok (.iadd, 1) := by decide +kernel
theorem dX12_readItems_91 : decode cX12_readItems 91 = .ok (.putfield 116, 3) := by decide +kernel
theorem dX12_readItems_94 : decode cX12_readItems 94 = .ok (.aload_n 2, 1) := by decide +kernel
theorem dX12_readItems_95 : decode cX12_readItems 95 = .ok (.iload_n 3, 1) := by decide +kernel
theorem dX12_readItems_96 : decode cX12_readItems 96 = .ok (.iload 6, 2) := by decide +kernel
theorem dX12_readItems_98 : decode cX12_readItems 98 = .ok (.iadd, 1) := by decide +kernel
theorem dX12_readItems_99 : decode cX12_readItems 99 = .ok (.aload_n 0, 1) := by decide +kernel
theorem dX12_readItems_100 : decode cX12_readItems 100 = .ok (.iload_n 1, 1) := by decide +kernel
theorem dX12_readItems_101 : decode cX12_readItems 101 = .ok (.iload 6, 2) := by decide +kernel
theorem dX12_readItems_103 : decode cX12_readItems 103 = .ok (.invokestatic 230, 3) := by decide +kernel
theorem dX12_readItems_106 : decode cX12_readItems 106 = .ok (.iload_n 1, 1) := by decide +kernel
theorem dX12_readItems_107 : decode cX12_readItems 107 = .ok (.iload 6, 2) := by decide +kernel
theorem dX12_readItems_109 : decode cX12_readItems 109 = .ok (.invokestatic 233, 3) := by decide +kernel
theorem dX12_readItems_112 : decode cX12_readItems 112 = .ok (.invokevirtual 236, 3) := by decide +kernel
theorem dX12_readItems_115 : decode cX12_readItems 115 = .ok (.iastore, 1) := by decide +kernel
theorem dX12_readItems_116 : decode cX12_readItems 116 = .ok (.aload_n 0, 1) := by decide +kernel
theorem dX12_readItems_117 : decode cX12_readItems 117 = .ok (.getfield 125, 3) := by decide +kernel
theorem dX12_readItems_120 : decode cX12_readItems 120 = .ok (.iconst (-1), 1) := by decide +kernel
theorem dX12_readItems_121 : decode cX12_readItems 121 = .ok (.if_icmp .ne (-76), 3) := by decide +kernel
theorem dX12_readItems_124 : decode cX12_readItems 124 = .ok (.aload 4, 2) := by decide +kernel
theorem dX12_readItems_126 : decode cX12_readItems 126 = .ok (.aload_n 0, 1) := by decide +kernel
theorem dX12_readItems_127 : decode cX12_readItems 127 = .ok (.invokevirtual 135, 3) := by decide +kernel
theorem dX12_readItems_130 : decode cX12_readItems 130 = .ok (.invokestatic 222, 3) := by decide +kernel
theorem dX12_readItems_133 : decode cX12_readItems 133 = .ok (.istore 6, 2) := by decide +kernel
theorem dX12_readItems_135 : decode cX12_readItems 135 = .ok (.goto (-90), 3) := by decide +kernel
theorem dX12_readItems_138 : decode cX12_readItems 138 = .ok (.return_, 1) := by decide +kernel
def X12_readItems_45 (n : Nat) (a2 : Nat) (a4 : Nat) : Nat → Int32 → Int32 → Int32 → Int32 → Mm → Option (Unit × Mm)
  | 0, _, _, _, _, _ => none
  | f + 1, x1, x3, x5, x6, h => (if x6 = (-1) then (some ((), h)) else (if (h.1 251 11) = (-1) then (bp (X12_has x5 x6 h) (fun r62 => (if r62 = true then (bd (X12_fails h) (fun r76 h78 => (some ((), h78)))) else (bp (X12_leastOf x1 x6 (wI h 251 10 ((h.1 251 10) + (1)))) (fun r64 => (bp (X12_mostOf x1 x6 (wI h 251 10 ((h.1 251 10) + (1)))) (fun r66 => (bd (X12_number n r64 r66 (wI h 251 10 ((h.1 251 10) + (1)))) (fun r68 h70 => (if inB (x3 + x6) (aln a2) then (if ((wI h70 a2 (x3 + x6).toNatClampNeg r68).1 251 11) = (-1) then (bd (X12_look n (wI h70 a2 (x3 + x6).toNatClampNeg r68)) (fun r71 h73 => (bp (X12_spotOf n a4 r71 h73) (fun r74 => ((X12_readItems_45 n a2 a4 f) x1 x3 (x5 ||| ((1) <<< (x6 &&& 31))) r74 h73))))) else ((X12_readItems_45 n a2 a4 f) x1 x3 (x5 ||| ((1) <<< (x6 &&& 31))) x6 (wI h70 a2 (x3 + x6).toNatClampNeg r68))) else none)))))))))) else (some ((), h))))
set_option maxRecDepth 100000 in
set_option maxHeartbeats 4000000 in
theorem v_X12_readItems_45 {X : WX} {G : GX} {o : Mm} {n : Nat} {a2 : Nat} {a4 : Nat} {rv : Unit} {hz : Mm} (ha2 : isO false 0 a2) (ha4 : isS a4) : ∀ (f : Nat) (x1 : Int32) (x3 : Int32) (x5 : Int32) (x6 : Int32) (h : Mm), X12_readItems_45 n a2 a4 f x1 x3 x5 x6 h = some (rv, hz) → V X G RX12 cX12_readItems 7 (none) 6 0 0 (QR X G false o none hz) false o 45 [(0, .ref (xa X 251)), (1, .int x1), (2, .ref (xa X a2)), (3, .int x3), (4, .ref (xa X a4)), (5, .int x5), (6, .int x6)] [] h := by
  intro f
  induction f with
  | zero => intro x1 x3 x5 x6 h hF; exact nomatch (show (none : Option (Unit × Mm)) = some (rv, hz) from hF)
  | succ f ih =>
    intro x1 x3 x5 x6 h hF
    unfold X12_readItems_45 at hF
    refine V.iload 6 dX12_readItems_45 rfl ?_
    refine V.iconst (v := -1) dX12_readItems_47 rfl ?_
    refine V.icmp_eq (tgt := 138) dX12_readItems_48 rfl (fun c => ?_) (fun c => ?_)
    · replace hF := (if_pos c).symm.trans hF
      cases hF
      exact V.vret dX12_readItems_138
    · replace hF := (if_neg c).symm.trans hF
      refine V.aload_n 0 dX12_readItems_51 rfl rfl ?_
      refine V.getI fl_X12_125 sh_251 rfl km_251 dX12_readItems_52 ?_
      refine V.iconst (v := -1) dX12_readItems_55 rfl ?_
      refine V.icmp_ne (tgt := 138) dX12_readItems_56 rfl (fun c => ?_) (fun c => ?_)
      · replace hF := (if_neg c).symm.trans hF
        cases hF
        exact V.vret dX12_readItems_138
      · replace hF := (if_pos c).symm.trans hF
        refine V.iload 5 dX12_readItems_59 rfl ?_
        refine V.iload 6 dX12_readItems_61 rfl ?_
        obtain ⟨r62, hc63, hF⟩ := bp_s hF
        refine V.callSi mf_X12_has ml_X12_226 (s_X12_has hc63) (by decide) rfl rfl (Nat.le_of_ble_eq_true rfl) dX12_readItems_63 ?_
        refine V.ifz_eq (tgt := 75) dX12_readItems_66 rfl (fun c => ?_) (fun c => ?_)
        · replace hF := (if_neg c).symm.trans hF
          refine V.iload 5 dX12_readItems_75 rfl ?_
          refine V.iconst (v := 1) dX12_readItems_77 rfl ?_
          refine V.iload 6 dX12_readItems_78 rfl ?_
          refine V.ishl dX12_readItems_80 ?_
          refine V.ior dX12_readItems_81 ?_
          refine V.istore [(5, _), (0, _), (1, _), (2, _), (3, _), (4, _), (6, _)] dX12_readItems_82 (by decide) rfl ?_
          refine V.aload_n 1 dX12_readItems_84 rfl rfl ?_
          refine V.dup dX12_readItems_85 rfl ?_
          refine V.getI fl_X12_116 sh_251 rfl km_251 dX12_readItems_86 ?_
          refine V.iconst (v := 1) dX12_readItems_89 rfl ?_
          refine V.iadd dX12_readItems_90 ?_
          refine V.putI fl_X12_116 rfl (tyX12_ok 10 (by decide)) rfl rfl sh_251 rfl km_251 dX12_readItems_91 ?_
          refine V.aload_n 3 dX12_readItems_94 rfl rfl ?_
          refine V.iload_n 4 dX12_readItems_95 rfl rfl ?_
          refine V.iload 6 dX12_readItems_96 rfl ?_
          refine V.iadd dX12_readItems_98 ?_
          refine V.aload_n 1 dX12_readItems_99 rfl rfl ?_
          refine V.iload_n 2 dX12_readItems_100 rfl rfl ?_
          refine V.iload 6 dX12_readItems_101 rfl ?_
          obtain ⟨r64, hc65, hF⟩ := bp_s hF
          refine V.callSi mf_X12_leastOf ml_X12_230 (s_X12_leastOf hc65) (by decide) rfl rfl (Nat.le_of_ble_eq_true rfl) dX12_readItems_103 ?_
          refine V.iload_n 2 dX12_readItems_106 rfl rfl ?_
          refine V.iload 6 dX12_readItems_107 rfl ?_
          obtain ⟨r66, hc67, hF⟩ := bp_s hF
          refine V.callSi mf_X12_mostOf ml_X12_233 (s_X12_mostOf hc67) (by decide) rfl rfl (Nat.le_of_ble_eq_true rfl) dX12_readItems_109 ?_
          obtain ⟨r68, h70, hc69, hF⟩ := bd_s hF
          refine V.callVi mf_X12_number ml_X12_236 sh_251 (s_X12_number hc69) (by decide) rfl rfl (Nat.le_of_ble_eq_true rfl) dX12_readItems_112 ?_
          obtain ⟨hk, hF⟩ := ck hF
          refine V.iast ha2 hk dX12_readItems_115 ?_
          refine V.aload_n 1 dX12_readItems_116 rfl rfl ?_
          refine V.getI fl_X12_125 sh_251 rfl km_251 dX12_readItems_117 ?_
          refine V.iconst (v := -1) dX12_readItems_120 rfl ?_
          refine V.icmp_ne (tgt := 45) dX12_readItems_121 rfl (fun c => ?_) (fun c => ?_)
          · replace hF := (if_neg c).symm.trans hF
            exact V.sub [1, 2, 3, 4, 5, 0, 6] rfl (ih _ _ _ _ _ hF)
          · replace hF := (if_pos c).symm.trans hF
            refine V.aload 5 dX12_readItems_124 rfl ?_
            refine V.aload_n 1 dX12_readItems_126 rfl rfl ?_
            obtain ⟨r71, h73, hc72, hF⟩ := bd_s hF
            refine V.callVi mf_X12_look ml_X12_135 sh_251 (s_X12_look hc72) (by decide) rfl rfl (Nat.le_of_ble_eq_true rfl) dX12_readItems_127 ?_
            obtain ⟨r74, hc75, hF⟩ := bp_s hF
            refine V.callSi mf_X12_spotOf ml_X12_222 (s_X12_spotOf ha4 hc75) (by decide) rfl rfl (Nat.le_of_ble_eq_true rfl) dX12_readItems_130 ?_
            refine V.istore [(6, _), (5, _), (0, _), (1, _), (2, _), (3, _), (4, _)] dX12_readItems_133 (by decide) rfl ?_
            refine V.goto (tgt := 45) dX12_readItems_135 rfl ?_
            exact V.sub [2, 3, 4, 5, 6, 1, 0] rfl (ih _ _ _ _ _ hF)
        · replace hF := (if_pos c).symm.trans hF
          refine V.aload_n 0 dX12_readItems_69 rfl rfl ?_
          obtain ⟨r76, h78, hc77, hF⟩ := bd_s hF
          refine V.callVi mf_X12_fails ml_X12_131 sh_251 (s_X12_fails hc77) (by decide) rfl rfl (Nat.le_of_ble_eq_true rfl) dX12_readItems_70 ?_
          refine V.pop dX12_readItems_73 rfl ?_
          cases hF
          exact V.vret dX12_readItems_74
def X12_readItems_3 (n : Nat) (a2 : Nat) (a4 : Nat) : Nat → Int32 → Int32 → Int32 → Mm → Option (Unit × Mm)
  | 0, _, _, _, _ => none
  | f + 1, x1, x3, x5, h => (bp (J0_length_8abf5 a4  h) (fun r79 => (if r79 ≤ x5 then (bd (X12_look n h) (fun r81 h83 => (bp (X12_spotOf n a4 r81 h83) (fun r84 => (X12_readItems_45 n a2 a4 n x1 x3 (0) r84 h83))))) else (bp (X12_usual x1 x5 h) (fun r86 => (if inB (x3 + x5) (aln a2) then ((X12_readItems_3 n a2 a4 f) x1 x3 (x5 + (1)) (wI h a2 (x3 + x5).toNatClampNeg r86)) else none))))))
set_option maxRecDepth 100000 in
set_option maxHeartbeats 4000000 in
theorem v_X12_readItems_3 {X : WX} {G : GX} {o : Mm} {n : Nat} {a2 : Nat} {a4 : Nat} {rv : Unit} {hz : Mm} (ha2 : isO false 0 a2) (ha4 : isS a4) : ∀ (f : Nat) (x1 : Int32) (x3 : Int32) (x5 : Int32) (h : Mm), X12_readItems_3 n a2 a4 f x1 x3 x5 h = some (rv, hz) → V X G RX12 cX12_readItems 7 (none) 6 0 0 (QR X G false o none hz) false o 3 [(0, .ref (xa X 251)), (1, .int x1), (2, .ref (xa X a2)), (3, .int x3), (4, .ref (xa X a4)), (5, .int x5)] [] h := by
  intro f
  induction f with
  | zero => intro x1 x3 x5 h hF; exact nomatch (show (none : Option (Unit × Mm)) = some (rv, hz) from hF)
  | succ f ih =>
    intro x1 x3 x5 h hF
    unfold X12_readItems_3 at hF
    refine V.iload 5 dX12_readItems_3 rfl ?_
    refine V.aload 4 dX12_readItems_5 rfl ?_
    obtain ⟨r79, hc80, hF⟩ := bp_s hF
    refine V.callTi mf_J0_length_8abf5 ml_X12_96 ha4 (s_J0_length_8abf5 ha4 hc80) (by decide) rfl rfl (Nat.le_of_ble_eq_true rfl) dX12_readItems_7 ?_
    refine V.icmp_ge (tgt := 31) dX12_readItems_10 rfl (fun c => ?_) (fun c => ?_)
    · replace hF := (if_pos c).symm.trans hF
      refine V.iconst (v := 0) dX12_readItems_31 rfl ?_
      refine V.istore [(5, _), (0, _), (1, _), (2, _), (3, _), (4, _)] dX12_readItems_32 (by decide) rfl ?_
      refine V.aload 5 dX12_readItems_34 rfl ?_
      refine V.aload_n 1 dX12_readItems_36 rfl rfl ?_
      obtain ⟨r81, h83, hc82, hF⟩ := bd_s hF
      refine V.callVi mf_X12_look ml_X12_135 sh_251 (s_X12_look hc82) (by decide) rfl rfl (Nat.le_of_ble_eq_true rfl) dX12_readItems_37 ?_
      obtain ⟨r84, hc85, hF⟩ := bp_s hF
      refine V.callSi mf_X12_spotOf ml_X12_222 (s_X12_spotOf ha4 hc85) (by decide) rfl rfl (Nat.le_of_ble_eq_true rfl) dX12_readItems_40 ?_
      refine V.istore [(6, _), (5, _), (0, _), (1, _), (2, _), (3, _), (4, _)] dX12_readItems_43 (by decide) rfl ?_
      exact V.sub [2, 3, 4, 5, 6, 1, 0] rfl (v_X12_readItems_45 ha2 ha4 n _ _ _ _ _ hF)
    · replace hF := (if_neg c).symm.trans hF
      refine V.aload_n 2 dX12_readItems_13 rfl rfl ?_
      refine V.iload_n 3 dX12_readItems_14 rfl rfl ?_
      refine V.iload 5 dX12_readItems_15 rfl ?_
      refine V.iadd dX12_readItems_17 ?_
      refine V.iload_n 1 dX12_readItems_18 rfl rfl ?_
      refine V.iload 5 dX12_readItems_19 rfl ?_
      obtain ⟨r86, hc87, hF⟩ := bp_s hF
      refine V.callSi mf_X12_usual ml_X12_218 (s_X12_usual hc87) (by decide) rfl rfl (Nat.le_of_ble_eq_true rfl) dX12_readItems_21 ?_
      obtain ⟨hk, hF⟩ := ck hF
      refine V.iast ha2 hk dX12_readItems_24 ?_
      refine V.iinc (v := (x5 + (1))) 5 [(5, _), (0, _), (1, _), (2, _), (3, _), (4, _)] dX12_readItems_25 rfl rfl (by decide) rfl ?_
      refine V.goto (tgt := 3) dX12_readItems_28 rfl ?_
      exact V.sub [1, 2, 3, 4, 5, 0] rfl (ih _ _ _ _ hF)
def X12_readItems (n : Nat) (x1 : Int32) (a2 : Nat) (x3 : Int32) (a4 : Nat) (h : Mm) : Option (Unit × Mm) := (X12_readItems_3 n a2 a4 n x1 x3 (0) h)
set_option maxRecDepth 100000 in
set_option maxHeartbeats 4000000 in
theorem s_X12_readItems {X : WX} {o : Mm} {n : Nat} {x1 : Int32} {a2 : Nat} {x3 : Int32} {a4 : Nat} {rv : Unit} {hz : Mm} {h : Mm} (ha2 : isO false 0 a2) (ha4 : isS a4) (hF : X12_readItems n x1 a2 x3 a4 h = some (rv, hz)) : Sat X yX12_readItems cX12_readItems 7 (none) 6 [.ref (xa X 251), .int x1, .ref (xa X a2), .int x3, .ref (xa X a4)] false o h none hz := by
  unfold X12_readItems at hF
  refine Sat.mk (own := RX12) rfl (by decide +kernel) (Nat.le_of_ble_eq_true rfl) (fun G => ?_)
  refine V.sub (lv2 := [(0, _), (1, _), (2, _), (3, _), (4, _)]) [0, 1, 2, 3, 4] rfl ?_
  refine V.iconst (v := 0) dX12_readItems_0 rfl ?_
  refine V.istore [(5, _), (0, _), (1, _), (2, _), (3, _), (4, _)] dX12_readItems_1 (by decide) rfl ?_
  exact V.sub [1, 2, 3, 4, 5, 0] rfl (v_X12_readItems_3 ha2 ha4 n _ _ _ _ hF)
/-! MonsterCotModel.readClause -/
theorem dX12_readClause_0 : decode cX12_readClause 0 = .ok (.aload_n 0, 1) := by decide +kernel
theorem dX12_readClause_1 : decode cX12_readClause 1 = .ok (.invokevirtual 135, 3) := by decide +kernel
theorem dX12_readClause_4 : decode cX12_readClause 4 = .ok (.istore_n 1, 1) := by decide +kernel
theorem dX12_readClause_5 : decode cX12_readClause 5 = .ok (.iload_n 1, 1) := by decide +kernel
theorem dX12_readClause_6 : decode cX12_readClause 6 = .ok (.bipush 115, 2) := by decide +kernel
theorem dX12_readClause_8 : decode cX12_readClause 8 = .ok (.if_icmp .ne 10, 3) := by decide +kernel
theorem dX12_readClause_11 : decode cX12_readClause 11 = .ok (.aload_n 0, 1) := by decide +kernel
theorem dX12_readClause_12 : decode cX12_readClause 12 = .ok (.getfield 239, 3) := by decide +kernel
theorem dX12_readClause_15 : decode cX12_readClause 15 = .ok (.ifCond .eq 33, 3) := by decide +kernel
theorem dX12_readClause_18 : decode cX12_readClause 18 = .ok (.iload_n 1, 1) := by decide +kernel
theorem dX12_readClause_19 : decode cX12_readClause 19 = .ok (.bipush 98, 2) := by decide +kernel
theorem dX12_readClause_21 : decode cX12_readClause 21 = .ok (.if_icmp .ne 12, 3) := by decide +kernel
theorem dX12_readClause_24 : decode cX12_readClause 24 = .ok (.aload_n 0, 1) := by decide +kernel
theorem dX12_readClause_25 : decode cX12_readClause 25 = .ok (.getfield 242, 3) := by decide +kernel
theorem dX12_readClause_28 : decode cX12_readClause 28 = .ok (.bipush 6, 2) := by decide +kernel
theorem dX12_readClause_30 : decode cX12_readClause 30 = .ok (.if_icmp .lt 18, 3) := by decide +kernel
theorem dX12_readClause_33 : decode cX12_readClause 33 = .ok (.iload_n 1, 1) := by decide +kernel
theorem dX12_readClause_34 : decode cX12_readClause 34 = .ok (.bipush 104, 2) := by decide +kernel
theorem dX12_readClause_36 : decode cX12_readClause 36 = .ok (.if_icmp .ne 16, 3) := by decide +kernel
theorem dX12_readClause_39 : decode cX12_readClause 39 = .ok (.aload_n 0, 1) := by decide +kernel
theorem dX12_readClause_40 : decode cX12_readClause 40 = .ok (.getfield 245, 3) := by decide +kernel
theorem dX12_readClause_43 : decode cX12_readClause 43 = .ok (.bipush 6, 2) := by decide +kernel
theorem dX12_readClause_45 : decode cX12_readClause 45 = .ok (.if_icmp .ge 7, 3) := by decide +kernel
theorem dX12_readClause_48 : decode cX12_readClause 48 = .ok (.iconst 1, 1) := by decide +kernel
theorem dX12_readClause_49 : decode cX12_readClause 49 = .ok (.goto 4, 3) := by decide +kernel
theorem dX12_readClause_52 : decode cX12_readClause 52 = .ok (.iconst 0, 1) := by decide +kernel
theorem dX12_readClause_53 : decode cX12_readClause 53 = .ok (.istore_n 2, 1) := by decide +kernel
theorem dX12_readClause_54 : decode cX12_readClause 54 = .ok (.iload_n 2, 1) := by decide +kernel
theorem dX12_readClause_55 : decode cX12_readClause 55 = .ok (.ifCond .ne 9, 3) := by decide +kernel
theorem dX12_readClause_58 : decode cX12_readClause 58 = .ok (.aload_n 0, 1) := by decide +kernel
theorem dX12_readClause_59 : decode cX12_readClause 59 = .ok (.invokevirtual 131, 3) := by decide +kernel
theorem dX12_readClause_62 : decode cX12_readClause 62 = .ok (.pop, 1) := by decide +kernel
theorem dX12_readClause_63 : decode cX12_readClause 63 = .ok (.return_, 1) := by decide +kernel
theorem dX12_readClause_64 : decode cX12_readClause 64 = .ok (.aload_n 0, 1) := by decide +kernel
theorem dX12_readClause_65 : decode cX12_readClause 65 = .ok (.dup, 1) := by decide +kernel
theorem dX12_readClause_66 : decode cX12_readClause 66 = .ok (.getfield 116, 3) := by decide +kernel
theorem dX12_readClause_69 : decode cX12_readClause 69 = .ok (.iconst 1, 1) := by decide +kernel
theorem dX12_readClause_70 : decode cX12_readClause 70 = .ok (.iadd, 1) := by decide +kernel
theorem dX12_readClause_71 : decode cX12_readClause 71 = .ok (.putfield 116, 3) := by decide +kernel
theorem dX12_readClause_74 : decode cX12_readClause 74 = .ok (.iload_n 1, 1) := by decide +kernel
theorem dX12_readClause_75 : decode cX12_readClause 75 = .ok (.bipush 115, 2) := by decide +kernel
theorem dX12_readClause_77 : decode cX12_readClause 77 = .ok (.if_icmp .ne 23, 3) := by decide +kernel
theorem dX12_readClause_80 : decode cX12_readClause 80 = .ok (.aload_n 0, 1) := by decide +kernel
theorem dX12_readClause_81 : decode cX12_readClause 81 = .ok (.iconst 1, 1) := by decide +kernel
theorem dX12_readClause_82 : decode cX12_readClause 82 = .ok (.putfield 239, 3) := by decide +kernel
theorem dX12_readClause_85 : decode cX12_readClause 85 = .ok (.aload_n 0, 1) := by decide +kernel
theorem dX12_readClause_86 : decode cX12_readClause 86 = .ok (.iload_n 1, 1) := by decide +kernel
theorem dX12_readClause_87 : decode cX12_readClause 87 = .ok (.aload_n 0, 1) := by decide +kernel
theorem dX12_readClause_88 : decode cX12_readClause 88 = .ok (.getfield 40, 3) := by decide +kernel
theorem dX12_readClause_91 : decode cX12_readClause 91 = .ok (.iconst 0, 1) := by decide +kernel
theorem dX12_readClause_92 : decode cX12_readClause 92 = .ok (.ldc 248, 2) := by decide +kernel
theorem dX12_readClause_94 : decode cX12_readClause 94 = .ok (.invokevirtual 250, 3) := by decide +kernel
theorem dX12_readClause_97 : decode cX12_readClause 97 = .ok (.goto 71, 3) := by decide +kernel
theorem dX12_readClause_100 : decode cX12_readClause 100 = .ok (.iload_n 1, 1) := by decide +kernel
theorem dX12_readClause_101 : decode cX12_readClause 101 = .ok (.bipush 98, 2) := by decide +kernel
theorem dX12_readClause_103 : decode cX12_readClause 103 = .ok (.if_icmp .ne 35, 3) := by decide +kernel
theorem dX12_readClause_106 : decode cX12_readClause 106 = .ok (.aload_n 0, 1) := by decide +kernel
theorem dX12_readClause_107 : decode cX12_readClause 107 = .ok (.dup, 1) := by decide +kernel
theorem dX12_readClause_108 : decode cX12_readClause 108 = .ok (.getfield 242, 3) := by decide +kernel
theorem dX12_readClause_111 : decode cX12_readClause 111 = .ok (.iconst 1, 1) := by decide +kernel
theorem dX12_readClause_112 : decode cX12_readClause 112 = .ok (.iadd, 1) := by decide +kernel
theorem dX12_readClause_113 : decode cX12_readClause 113 = .ok (.putfield 242, 3) := by decide +kernel
theorem dX12_readClause_116 : decode cX12_readClause 116 = .ok (.aload_n 0, 1) := by decide +kernel
theorem dX12_readClause_117 : decode cX12_readClause 117 = .ok (.iload_n 1, 1) := by decide +kernel
theorem dX12_readClause_118 : decode cX12_readClause 118 = .ok (.aload_n 0, 1) := by decide +kernel
theorem dX12_readClause_119 : decode cX12_readClause 119 = .ok (.getfield 46, 3) := by decide +kernel
theorem dX12_readClause_122 : decode cX12_readClause 122 = .ok (.iconst 3, 1) := by decide +kernel
theorem dX12_readClause_123 : decode cX12_readClause 123 = .ok (.aload_n 0, 1) := by decide +kernel
theorem dX12_readClause_124 : decode cX12_readClause 124 = .ok (.getfield 242, 3) := by decide +kernel
theorem dX12_readClause_127 : decode cX12_readClause 127 = .ok (.iconst 1, 1) := by decide +kernel
theorem dX12_readClause_128 : decode cX12_readClause 128 = .ok (.isub, 1) := by decide +kernel
theorem dX12_readClause_129 : decode cX12_readClause 129 = .ok (.imul, 1) := by decide +kernel
theorem dX12_readClause_130 : decode cX12_readClause 130 = .ok (.ldc 254, 2) := by decide +kernel
theorem dX12_readClause_132 : decode cX12_readClause 132 = .ok (.invokevirtual 250, 3) := by decide +kernel
theorem dX12_readClause_135 : decode cX12_readClause 135 = .ok (.goto 33, 3) := by decide +kernel
theorem dX12_readClause_138 : decode cX12_readClause 138 = .ok (.aload_n 0, 1) := by decide +kernel
theorem dX12_readClause_139 : decode cX12_readClause 139 = .ok (.dup, 1) := by decide +kernel
theorem dX12_readClause_140 : decode cX12_readClause 140 = .ok (.getfield 245, 3) := by decide +kernel
theorem dX12_readClause_143 : decode cX12_readClause 143 = .ok (.iconst 1, 1) := by decide +kernel
theorem dX12_readClause_144 : decode cX12_readClause 144 = .ok (.iadd, 1) := by decide +kernel
theorem dX12_readClause_145 : decode cX12_readClause 145 = .ok (.putfield 245, 3) := by decide +kernel
theorem dX12_readClause_148 : decode cX12_readClause 148 = .ok (.aload_n 0, 1) := by decide +kernel
theorem dX12_readClause_149 : decode cX12_readClause 149 = .ok (.iload_n 1, 1) := by decide +kernel
theorem dX12_readClause_150 : decode cX12_readClause 150 = .ok (.aload_n 0, 1) := by decide +kernel
theorem dX12_readClause_151 : decode cX12_readClause 151 = .ok (.getfield 52, 3) := by decide +kernel
theorem dX12_readClause_154 : decode cX12_readClause 154 = .ok (.iconst 3, 1) := by decide +kernel
theorem dX12_readClause_155 : decode cX12_readClause 155 = .ok (.aload_n 0, 1) := by decide +kernel
theorem dX12_readClause_156 : decode cX12_readClause 156 = .ok (.getfield 245, 3) := by decide +kernel
theorem dX12_readClause_159 : decode cX12_readClause 159 = .ok (.iconst 1, 1) := by decide +kernel
theorem dX12_readClause_160 : decode cX12_readClause 160 = .ok (.isub, 1) := by decide +kernel
theorem dX12_readClause_161 : decode cX12_readClause 161 = .ok (.imul, 1) := by decide +kernel
theorem dX12_readClause_162 : decode cX12_readClause 162 = .ok (.ldc_w 256, 3) := by decide +kernel
theorem dX12_readClause_165 : decode cX12_readClause 165 = .ok (.invokevirtual 250, 3) := by decide +kernel
theorem dX12_readClause_168 : decode cX12_readClause 168 = .ok (.return_, 1) := by decide +kernel
def X12_readClause_53 (n : Nat) (x1 : Int32) (s0 : Bool) (h : Mm) : Option (Unit × Mm) := (if s0 = true then (if x1 = (115) then (bd (X12_readItems n x1 257 (0) 1033 (wI (wI h 251 10 ((h.1 251 10) + (1))) 251 31 (1))) (fun _ h42 => (some ((), h42)))) else (if x1 = (98) then (bd (X12_readItems n x1 259 ((3) * (((wI (wI h 251 10 ((h.1 251 10) + (1))) 251 28 (((wI h 251 10 ((h.1 251 10) + (1))).1 251 28) + (1))).1 251 28) - (1))) 1034 (wI (wI h 251 10 ((h.1 251 10) + (1))) 251 28 (((wI h 251 10 ((h.1 251 10) + (1))).1 251 28) + (1)))) (fun _ h39 => (some ((), h39)))) else (bd (X12_readItems n x1 261 ((3) * (((wI (wI h 251 10 ((h.1 251 10) + (1))) 251 29 (((wI h 251 10 ((h.1 251 10) + (1))).1 251 29) + (1))).1 251 29) - (1))) 1035 (wI (wI h 251 10 ((h.1 251 10) + (1))) 251 29 (((wI h 251 10 ((h.1 251 10) + (1))).1 251 29) + (1)))) (fun _ h36 => (some ((), h36)))))) else (bd (X12_fails h) (fun r43 h45 => (some ((), h45)))))
set_option maxRecDepth 100000 in
set_option maxHeartbeats 4000000 in
theorem v_X12_readClause_53 {X : WX} {G : GX} {o : Mm} {n : Nat} {rv : Unit} {hz : Mm} {x1 : Int32} {s0 : Bool} {h : Mm} (hF : X12_readClause_53 n x1 s0 h = some (rv, hz)) : V X G RX12 cX12_readClause 3 (none) 7 0 0 (QR X G false o none hz) false o 53 [(0, .ref (xa X 251)), (1, .int x1)] [.int (b2i s0)] h := by
  unfold X12_readClause_53 at hF
  refine V.istore_n [(2, _), (0, _), (1, _)] dX12_readClause_53 rfl (by decide) rfl ?_
  refine V.iload_n 0 dX12_readClause_54 rfl rfl ?_
  refine V.ifz_ne (tgt := 64) dX12_readClause_55 rfl (fun c => ?_) (fun c => ?_)
  · replace hF := (if_pos c).symm.trans hF
    refine V.aload_n 1 dX12_readClause_64 rfl rfl ?_
    refine V.dup dX12_readClause_65 rfl ?_
    refine V.getI fl_X12_116 sh_251 rfl km_251 dX12_readClause_66 ?_
    refine V.iconst (v := 1) dX12_readClause_69 rfl ?_
    refine V.iadd dX12_readClause_70 ?_
    refine V.putI fl_X12_116 rfl (tyX12_ok 10 (by decide)) rfl rfl sh_251 rfl km_251 dX12_readClause_71 ?_
    refine V.iload_n 2 dX12_readClause_74 rfl rfl ?_
    refine V.bipush (v := 115) dX12_readClause_75 (by decide) ?_
    refine V.icmp_ne (tgt := 100) dX12_readClause_77 rfl (fun c => ?_) (fun c => ?_)
    · replace hF := (if_neg c).symm.trans hF
      refine V.iload_n 2 dX12_readClause_100 rfl rfl ?_
      refine V.bipush (v := 98) dX12_readClause_101 (by decide) ?_
      refine V.icmp_ne (tgt := 138) dX12_readClause_103 rfl (fun c => ?_) (fun c => ?_)
      · replace hF := (if_neg c).symm.trans hF
        refine V.aload_n 1 dX12_readClause_138 rfl rfl ?_
        refine V.dup dX12_readClause_139 rfl ?_
        refine V.getI fl_X12_245 sh_251 rfl km_251 dX12_readClause_140 ?_
        refine V.iconst (v := 1) dX12_readClause_143 rfl ?_
        refine V.iadd dX12_readClause_144 ?_
        refine V.putI fl_X12_245 rfl (tyX12_ok 29 (by decide)) rfl rfl sh_251 rfl km_251 dX12_readClause_145 ?_
        refine V.aload_n 1 dX12_readClause_148 rfl rfl ?_
        refine V.iload_n 2 dX12_readClause_149 rfl rfl ?_
        refine V.aload_n 1 dX12_readClause_150 rfl rfl ?_
        refine V.getR (v := 261) fl_X12_52 sh_251 rfl fx_251_23 (by decide) dX12_readClause_151 ?_
        refine V.iconst (v := 3) dX12_readClause_154 rfl ?_
        refine V.aload_n 1 dX12_readClause_155 rfl rfl ?_
        refine V.getI fl_X12_245 sh_251 rfl km_251 dX12_readClause_156 ?_
        refine V.iconst (v := 1) dX12_readClause_159 rfl ?_
        refine V.isub dX12_readClause_160 ?_
        refine V.imul dX12_readClause_161 ?_
        refine V.ldcSw sc_1035 rfl rfl dX12_readClause_162 ?_
        obtain ⟨r34, h36, hc35, hF⟩ := bd_s hF
        refine V.callVv mf_X12_readItems ml_X12_250 sh_251 (s_X12_readItems io_261 ⟨by decide, by decide⟩ hc35) (by decide) rfl rfl (Nat.le_of_ble_eq_true rfl) dX12_readClause_165 ?_
        cases hF
        exact V.vret dX12_readClause_168
      · replace hF := (if_pos c).symm.trans hF
        refine V.aload_n 1 dX12_readClause_106 rfl rfl ?_
        refine V.dup dX12_readClause_107 rfl ?_
        refine V.getI fl_X12_242 sh_251 rfl km_251 dX12_readClause_108 ?_
        refine V.iconst (v := 1) dX12_readClause_111 rfl ?_
        refine V.iadd dX12_readClause_112 ?_
        refine V.putI fl_X12_242 rfl (tyX12_ok 28 (by decide)) rfl rfl sh_251 rfl km_251 dX12_readClause_113 ?_
        refine V.aload_n 1 dX12_readClause_116 rfl rfl ?_
        refine V.iload_n 2 dX12_readClause_117 rfl rfl ?_
        refine V.aload_n 1 dX12_readClause_118 rfl rfl ?_
        refine V.getR (v := 259) fl_X12_46 sh_251 rfl fx_251_21 (by decide) dX12_readClause_119 ?_
        refine V.iconst (v := 3) dX12_readClause_122 rfl ?_
        refine V.aload_n 1 dX12_readClause_123 rfl rfl ?_
        refine V.getI fl_X12_242 sh_251 rfl km_251 dX12_readClause_124 ?_
        refine V.iconst (v := 1) dX12_readClause_127 rfl ?_
        refine V.isub dX12_readClause_128 ?_
        refine V.imul dX12_readClause_129 ?_
        refine V.ldcS sc_1034 rfl rfl dX12_readClause_130 ?_
        obtain ⟨r37, h39, hc38, hF⟩ := bd_s hF
        refine V.callVv mf_X12_readItems ml_X12_250 sh_251 (s_X12_readItems io_259 ⟨by decide, by decide⟩ hc38) (by decide) rfl rfl (Nat.le_of_ble_eq_true rfl) dX12_readClause_132 ?_
        refine V.goto (tgt := 168) dX12_readClause_135 rfl ?_
        cases hF
        exact V.vret dX12_readClause_168
    · replace hF := (if_pos c).symm.trans hF
      refine V.aload_n 1 dX12_readClause_80 rfl rfl ?_
      refine V.iconst (v := 1) dX12_readClause_81 rfl ?_
      refine V.putI fl_X12_239 rfl (tyX12_ok 31 (by decide)) rfl rfl sh_251 rfl km_251 dX12_readClause_82 ?_
      refine V.aload_n 1 dX12_readClause_85 rfl rfl ?_
      refine V.iload_n 2 dX12_readClause_86 rfl rfl ?_
      refine V.aload_n 1 dX12_readClause_87 rfl rfl ?_
      refine V.getR (v := 257) fl_X12_40 sh_251 rfl fx_251_19 (by decide) dX12_readClause_88 ?_
      refine V.iconst (v := 0) dX12_readClause_91 rfl ?_
      refine V.ldcS sc_1033 rfl rfl dX12_readClause_92 ?_
      obtain ⟨r40, h42, hc41, hF⟩ := bd_s hF
      refine V.callVv mf_X12_readItems ml_X12_250 sh_251 (s_X12_readItems io_257 ⟨by decide, by decide⟩ hc41) (by decide) rfl rfl (Nat.le_of_ble_eq_true rfl) dX12_readClause_94 ?_
      refine V.goto (tgt := 168) dX12_readClause_97 rfl ?_
      cases hF
      exact V.vret dX12_readClause_168
  · replace hF := (if_neg c).symm.trans hF
    refine V.aload_n 1 dX12_readClause_58 rfl rfl ?_
    obtain ⟨r43, h45, hc44, hF⟩ := bd_s hF
    refine V.callVi mf_X12_fails ml_X12_131 sh_251 (s_X12_fails hc44) (by decide) rfl rfl (Nat.le_of_ble_eq_true rfl) dX12_readClause_59 ?_
    refine V.pop dX12_readClause_62 rfl ?_
    cases hF
    exact V.vret dX12_readClause_63
def X12_readClause_48 (n : Nat) (x1 : Int32) (h : Mm) : Option (Unit × Mm) := (X12_readClause_53 n x1 true h)
set_option maxRecDepth 100000 in
set_option maxHeartbeats 4000000 in
theorem v_X12_readClause_48 {X : WX} {G : GX} {o : Mm} {n : Nat} {rv : Unit} {hz : Mm} {x1 : Int32} {h : Mm} (hF : X12_readClause_48 n x1 h = some (rv, hz)) : V X G RX12 cX12_readClause 3 (none) 7 0 0 (QR X G false o none hz) false o 48 [(0, .ref (xa X 251)), (1, .int x1)] [] h := by
  unfold X12_readClause_48 at hF
  refine V.iconst (v := 1) dX12_readClause_48 rfl ?_
  refine V.goto (tgt := 53) dX12_readClause_49 rfl ?_
  exact (v_X12_readClause_53 hF)
def X12_readClause_52 (n : Nat) (x1 : Int32) (h : Mm) : Option (Unit × Mm) := (X12_readClause_53 n x1 false h)
set_option maxRecDepth 100000 in
set_option maxHeartbeats 4000000 in
theorem v_X12_readClause_52 {X : WX} {G : GX} {o : Mm} {n : Nat} {rv : Unit} {hz : Mm} {x1 : Int32} {h : Mm} (hF : X12_readClause_52 n x1 h = some (rv, hz)) : V X G RX12 cX12_readClause 3 (none) 7 0 0 (QR X G false o none hz) false o 52 [(0, .ref (xa X 251)), (1, .int x1)] [] h := by
  unfold X12_readClause_52 at hF
  refine V.iconst (v := 0) dX12_readClause_52 rfl ?_
  exact (v_X12_readClause_53 hF)
def X12_readClause_33 (n : Nat) (x1 : Int32) (h : Mm) : Option (Unit × Mm) := (if x1 = (104) then (if (6) ≤ (h.1 251 29) then (X12_readClause_52 n x1 h) else (X12_readClause_48 n x1 h)) else (X12_readClause_52 n x1 h))
set_option maxRecDepth 100000 in
set_option maxHeartbeats 4000000 in
theorem v_X12_readClause_33 {X : WX} {G : GX} {o : Mm} {n : Nat} {rv : Unit} {hz : Mm} {x1 : Int32} {h : Mm} (hF : X12_readClause_33 n x1 h = some (rv, hz)) : V X G RX12 cX12_readClause 3 (none) 7 0 0 (QR X G false o none hz) false o 33 [(0, .ref (xa X 251)), (1, .int x1)] [] h := by
  unfold X12_readClause_33 at hF
  refine V.iload_n 1 dX12_readClause_33 rfl rfl ?_
  refine V.bipush (v := 104) dX12_readClause_34 (by decide) ?_
  refine V.icmp_ne (tgt := 52) dX12_readClause_36 rfl (fun c => ?_) (fun c => ?_)
  · replace hF := (if_neg c).symm.trans hF
    exact (v_X12_readClause_52 hF)
  · replace hF := (if_pos c).symm.trans hF
    refine V.aload_n 0 dX12_readClause_39 rfl rfl ?_
    refine V.getI fl_X12_245 sh_251 rfl km_251 dX12_readClause_40 ?_
    refine V.bipush (v := 6) dX12_readClause_43 (by decide) ?_
    refine V.icmp_ge (tgt := 52) dX12_readClause_45 rfl (fun c => ?_) (fun c => ?_)
    · replace hF := (if_pos c).symm.trans hF
      exact (v_X12_readClause_52 hF)
    · replace hF := (if_neg c).symm.trans hF
      exact (v_X12_readClause_48 hF)
def X12_readClause_18 (n : Nat) (x1 : Int32) (h : Mm) : Option (Unit × Mm) := (if x1 = (98) then (if (h.1 251 28) < (6) then (X12_readClause_48 n x1 h) else (X12_readClause_33 n x1 h)) else (X12_readClause_33 n x1 h))
set_option maxRecDepth 100000 in
set_option maxHeartbeats 4000000 in
theorem v_X12_readClause_18 {X : WX} {G : GX} {o : Mm} {n : Nat} {rv : Unit} {hz : Mm} {x1 : Int32} {h : Mm} (hF : X12_readClause_18 n x1 h = some (rv, hz)) : V X G RX12 cX12_readClause 3 (none) 7 0 0 (QR X G false o none hz) false o 18 [(0, .ref (xa X 251)), (1, .int x1)] [] h := by
  unfold X12_readClause_18 at hF
  refine V.iload_n 1 dX12_readClause_18 rfl rfl ?_
  refine V.bipush (v := 98) dX12_readClause_19 (by decide) ?_
  refine V.icmp_ne (tgt := 33) dX12_readClause_21 rfl (fun c => ?_) (fun c => ?_)
  · replace hF := (if_neg c).symm.trans hF
    exact (v_X12_readClause_33 hF)
  · replace hF := (if_pos c).symm.trans hF
    refine V.aload_n 0 dX12_readClause_24 rfl rfl ?_
    refine V.getI fl_X12_242 sh_251 rfl km_251 dX12_readClause_25 ?_
    refine V.bipush (v := 6) dX12_readClause_28 (by decide) ?_
    refine V.icmp_lt (tgt := 48) dX12_readClause_30 rfl (fun c => ?_) (fun c => ?_)
    · replace hF := (if_pos c).symm.trans hF
      exact (v_X12_readClause_48 hF)
    · replace hF := (if_neg c).symm.trans hF
      exact (v_X12_readClause_33 hF)
def X12_readClause (n : Nat) (h : Mm) : Option (Unit × Mm) := (bd (X12_look n h) (fun r46 h48 => (if r46 = (115) then (if (h48.1 251 31) = 0 then (X12_readClause_48 n r46 h48) else (X12_readClause_18 n r46 h48)) else (X12_readClause_18 n r46 h48))))
set_option maxRecDepth 100000 in
set_option maxHeartbeats 4000000 in
theorem s_X12_readClause {X : WX} {o : Mm} {n : Nat} {rv : Unit} {hz : Mm} {h : Mm} (hF : X12_readClause n h = some (rv, hz)) : Sat X yX12_readClause cX12_readClause 3 (none) 7 [.ref (xa X 251)] false o h none hz := by
  unfold X12_readClause at hF
  refine Sat.mk (own := RX12) rfl (by decide +kernel) (Nat.le_of_ble_eq_true rfl) (fun G => ?_)
  refine V.sub (lv2 := [(0, _)]) [0] rfl ?_
  refine V.aload_n 0 dX12_readClause_0 rfl rfl ?_
  obtain ⟨r46, h48, hc47, hF⟩ := bd_s hF
  refine V.callVi mf_X12_look ml_X12_135 sh_251 (s_X12_look hc47) (by decide) rfl rfl (Nat.le_of_ble_eq_true rfl) dX12_readClause_1 ?_
  refine V.istore_n [(1, _), (0, _)] dX12_readClause_4 rfl (by decide) rfl ?_
  refine V.iload_n 0 dX12_readClause_5 rfl rfl ?_
  refine V.bipush (v := 115) dX12_readClause_6 (by decide) ?_
  refine V.icmp_ne (tgt := 18) dX12_readClause_8 rfl (fun c => ?_) (fun c => ?_)
  · replace hF := (if_neg c).symm.trans hF
    exact V.sub [1, 0] rfl (v_X12_readClause_18 hF)
  · replace hF := (if_pos c).symm.trans hF
    refine V.aload_n 1 dX12_readClause_11 rfl rfl ?_
    refine V.getI fl_X12_239 sh_251 rfl km_251 dX12_readClause_12 ?_
    refine V.if_eq (tgt := 48) dX12_readClause_15 rfl (fun c => ?_) (fun c => ?_)
    · replace hF := (if_pos c).symm.trans hF
      exact V.sub [1, 0] rfl (v_X12_readClause_48 hF)
    · replace hF := (if_neg c).symm.trans hF
      exact V.sub [1, 0] rfl (v_X12_readClause_18 hF)
/-! MonsterCotModel.readLanding -/
theorem dX12_readLanding_0 : decode cX12_readLanding 0 = .ok (.aload_n 0, 1) := by decide +kernel
theorem dX12_readLanding_1 : decode cX12_readLanding 1 = .ok (.aload_n 0, 1) := by decide +kernel
theorem dX12_readLanding_2 : decode cX12_readLanding 2 = .ok (.getfield 9, 3) := by decide +kernel
theorem dX12_readLanding_5 : decode cX12_readLanding 5 = .ok (.iconst 0, 1) := by decide +kernel
theorem dX12_readLanding_6 : decode cX12_readLanding 6 = .ok (.aload_n 0, 1) := by decide +kernel
theorem dX12_readLanding_7 : decode cX12_readLanding 7 = .ok (.getfield 106, 3) := by decide +kernel
theorem dX12_readLanding_10 : decode cX12_readLanding 10 = .ok (.invokevirtual 204, 3) := by decide +kernel
theorem dX12_readLanding_13 : decode cX12_readLanding 13 = .ok (.aload_n 0, 1) := by decide +kernel
theorem dX12_readLanding_14 : decode cX12_readLanding 14 = .ok (.iconst 0, 1) := by decide +kernel
theorem dX12_readLanding_15 : decode cX12_readLanding 15 = .ok (.putfield 242, 3) := by decide +kernel
theorem dX12_readLanding_18 : decode cX12_readLanding 18 = .ok (.aload_n 0, 1) := by decide +kernel
theorem dX12_readLanding_19 : decode cX12_readLanding 19 = .ok (.iconst 0, 1) := by decide +kernel
theorem dX12_readLanding_20 : decode cX12_readLanding 20 = .ok (.putfield 245, 3) := by decide +kernel
theorem dX12_readLanding_23 : decode cX12_readLanding 23 = .ok (.aload_n 0, 1) := by decide +kernel
theorem dX12_readLanding_24 : decode cX12_readLanding 24 = .ok (.iconst 0, 1) := by decide +kernel
theorem dX12_readLanding_25 : decode cX12_readLanding 25 = .ok (.putfield 239, 3) := by decide +kernel
theorem dX12_readLanding_28 : decode cX12_readLanding 28 = .ok (.iconst 0, 1) := by decide +kernel
theorem dX12_readLanding_29 : decode cX12_readLanding 29 = .ok (.istore_n 1, 1) := by decide +kernel
theorem dX12_readLanding_30 : decode cX12_readLanding 30 = .ok (.iload_n 1, 1) := by decide +kernel
theorem dX12_readLanding_31 : decode cX12_readLanding 31 = .ok (.iconst 3, 1) := by decide +kernel
theorem dX12_readLanding_32 : decode cX12_readLanding 32 = .ok (.if_icmp .ge 21, 3) := by decide +kernel
theorem dX12_readLanding_35 : decode cX12_readLanding 35 = .ok (.aload_n 0, 1) := by decide +kernel
theorem dX12_readLanding_36 : decode cX12_readLanding 36 = .ok (.getfield 40, 3) := by decide +kernel
theorem dX12_readLanding_39 : decode cX12_readLanding 39 = .ok (.iload_n 1, 1) := by decide +kernel
theorem dX12_readLanding_40 : decode cX12_readLanding 40 = .ok (.bipush 115, 2) := by decide +kernel
theorem dX12_readLanding_42 : decode cX12_readLanding 42 = .ok (.iload_n 1, 1) := by decide +kernel
theorem dX12_readLanding_43 : decode cX12_readLanding 43 = .ok (.invokestatic 218, 3) := by decide +kernel
theorem dX12_readLanding_46 : decode cX12_readLanding 46 = .ok (.iastore, 1) := by decide +kernel
theorem dX12_readLanding_47 : decode cX12_readLanding 47 = .ok (.iinc 1 1, 3) := by decide +kernel
theorem dX12_readLanding_50 : decode cX12_readLanding 50 = .ok (.goto (-20), 3) := by decide +kernel
theorem dX12_readLanding_53 : decode cX12_readLanding 53 = .ok (.iconst 1, 1) := by decide +kernel
theorem dX12_readLanding_54 : decode cX12_readLanding 54 = .ok (.istore_n 1, 1) := by decide +kernel
theorem dX12_readLanding_55 : decode cX12_readLanding 55 = .ok (.iload_n 1, 1) := by decide +kernel
theorem dX12_readLanding_56 : decode cX12_readLanding 56 = .ok (.ifCond .eq 55, 3) := by decide +kernel
theorem dX12_readLanding_59 : decode cX12_readLanding 59 = .ok (.aload_n 0, 1) := by decide +kernel
theorem dX12_readLanding_60 : decode cX12_readLanding 60 = .ok (.getfield 125, 3) := by decide +kernel
theorem dX12_readLanding_63 : decode cX12_readLanding 63 = .ok (.iconst (-1), 1) := by decide +kernel
theorem dX12_readLanding_64 : decode cX12_readLanding 64 = .ok (.if_icmp .ne 47, 3) := by decide +kernel
theorem dX12_readLanding_67 : decode cX12_readLanding 67 = .ok (.aload_n 0, 1) := by decide +kernel
theorem dX12_readLanding_68 : decode cX12_readLanding 68 = .ok (.invokevirtual 258, 3) := by decide +kernel
theorem dX12_readLanding_71 : decode cX12_readLanding 71 = .ok (.aload_n 0, 1) := by decide +kernel
theorem dX12_readLanding_72 : decode cX12_readLanding 72 = .ok (.getfield 125, 3) := by decide +kernel
theorem dX12_readLanding_75 : decode cX12_readLanding 75 = .ok (.iconst (-1), 1) := by decide +kernel
theorem dX12_readLanding_76 : decode cX12_readLanding 76 = .ok (.if_icmp .ne 16, 3) := by decide +kernel
theorem dX12_readLanding_79 : decode cX12_readLanding 79 = .ok (.aload_n 0, 1) := by decide +kernel
theorem dX12_readLanding_80 : decode cX12_readLanding 80 = .ok (.invokevirtual 135, 3) := by decide +kernel
theorem dX12_readLanding_83 : decode cX12_readLanding 83 = .ok (.bipush 59, 2) := by decide +kernel
theorem dX12_readLanding_85 : decode cX12_readLanding 85 = .ok (.if_icmp .ne 7, 3) := by decide +kernel
theorem dX12_readLanding_88 : decode cX12_readLanding 88 = .ok (.iconst 1, 1) := by decide +kernel
theorem dX12_readLanding_89 : decode cX12_readLanding 89 = .ok (.goto 4, 3) := by decide +kernel
theorem dX12_readLanding_92 : decode cX12_readLanding 92 = .ok (.iconst 0, 1) := by decide +kernel
theorem dX12_readLanding_93 : decode cX12_readLanding 93 = .ok (.istore_n 1, 1) := by decide +kernel
theorem dX12_readLanding_94 : decode cX12_readLanding 94 = .ok (.iload_n 1, 1) := by decide +kernel
theorem dX12_readLanding_95 : decode cX12_readLanding 95 = .ok (.ifCond .eq (-40), 3) := by decide +kernel
theorem dX12_readLanding_98 : decode cX12_readLanding 98 = .ok (.aload_n 0, 1) := by decide +kernel
theorem dX12_readLanding_99 : decode cX12_readLanding 99 = .ok (.dup, 1) := by decide +kernel
theorem dX12_readLanding_100 : decode cX12_readLanding 100 = .ok (.getfield 116, 3) := by decide +kernel
theorem dX12_readLanding_103 : decode cX12_readLanding 103 = .ok (.iconst 1, 1) := by decide +kernel
theorem dX12_readLanding_104 : decode cX12_readLanding 104 = .ok (.iadd, 1) := by decide +kernel
theorem dX12_readLanding_105 : decode cX12_readLanding 105 = .ok (.putfield 116, 3) := by decide +kernel
theorem dX12_readLanding_108 : decode cX12_readLanding 108 = .ok (.goto (-53), 3) := by decide +kernel
theorem dX12_readLanding_111 : decode cX12_readLanding 111 = .ok (.aload_n 0, 1) := by decide +kernel
theorem dX12_readLanding_112 : decode cX12_readLanding 112 = .ok (.getfield 125, 3) := by decide +kernel
theorem dX12_readLanding_115 : decode cX12_readLanding 115 = .ok (.iconst (-1), 1) := by decide +kernel
theorem dX12_readLanding_116 : decode cX12_readLanding 116 = .ok (.if_icmp .ne 30, 3) := by decide +kernel
theorem dX12_readLanding_119 : decode cX12_readLanding 119 = .ok (.aload_n 0, 1) := by decide +kernel
theorem dX12_readLanding_120 : decode cX12_readLanding 120 = .ok (.invokevirtual 135, 3) := by decide +kernel
theorem dX12_readLanding_123 : decode cX12_readLanding 123 = .ok (.iconst (-1), 1) := by decide +kernel
theorem dX12_readLanding_124 : decode cX12_readLanding 124 = .ok (.if_icmp .ne 17, 3) := by decide +kernel
theorem dX12_readLanding_127 : decode cX12_readLanding 127 = .ok (.aload_n 0, 1) := by decide +kernel
theorem dX12_readLanding_128 : decode cX12_readLanding 128 = .ok (.getfield 242, 3) := by decide +kernel
theorem dX12_readLanding_131 : decode cX12_readLanding 131 = .ok (.ifCond .eq 10, 3) := by decide +kernel
theorem dX12_readLanding_134 : decode cX12_readLanding 134 = .ok (.aload_n 0, 1) := by decide +kernel
theorem dX12_readLanding_135 : decode cX12_readLanding 135 = .ok (.getfield 245, 3) := by decide +kernel
theorem dX12_readLanding_138 : decode cX12_readLanding 138 = .ok (.ifCond .ne 8, 3) := by decide +kernel
theorem dX12_readLanding_141 : decode cX12_readLanding 141 = .ok (.aload_n 0, 1) := by decide +kernel
theorem dX12_readLanding_142 : decode cX12_readLanding 142 = .ok (.invokevirtual 131, 3) := by decide +kernel
theorem dX12_readLanding_145 : decode cX12_readLanding 145 = .ok (.pop, 1) := by decide +kernel
theorem dX12_readLanding_146 : decode cX12_readLanding 146 = .ok (.return_, 1) := by decide +kernel
def X12_readLanding_93 (n : Nat) (K55 : Bool → Mm → Option (Unit × Mm)) (s0 : Bool) (h : Mm) : Option (Unit × Mm) := (if s0 = true then (K55 s0 (wI h 251 10 ((h.1 251 10) + (1)))) else (K55 s0 h))
set_option maxRecDepth 100000 in
set_option maxHeartbeats 4000000 in
theorem v_X12_readLanding_93 {X : WX} {G : GX} {o : Mm} {n : Nat} {K55 : Bool → Mm → Option (Unit × Mm)} {rv : Unit} {hz : Mm} (hK55 : ∀ (x1 : Bool) (h : Mm), K55 x1 h = some (rv, hz) → V X G RX12 cX12_readLanding 2 (none) 8 0 0 (QR X G false o none hz) false o 55 [(0, .ref (xa X 251)), (1, .int (b2i x1))] [] h) {s0 : Bool} {h : Mm} (hF : X12_readLanding_93 n K55 s0 h = some (rv, hz)) : V X G RX12 cX12_readLanding 2 (none) 8 0 0 (QR X G false o none hz) false o 93 [(0, .ref (xa X 251))] [.int (b2i s0)] h := by
  unfold X12_readLanding_93 at hF
  refine V.istore_n [(1, _), (0, _)] dX12_readLanding_93 rfl (by decide) rfl ?_
  refine V.iload_n 0 dX12_readLanding_94 rfl rfl ?_
  refine V.ifz_eq (tgt := 55) dX12_readLanding_95 rfl (fun c => ?_) (fun c => ?_)
  · replace hF := (if_neg c).symm.trans hF
    exact V.sub [1, 0] rfl (hK55 _ _ hF)
  · replace hF := (if_pos c).symm.trans hF
    refine V.aload_n 1 dX12_readLanding_98 rfl rfl ?_
    refine V.dup dX12_readLanding_99 rfl ?_
    refine V.getI fl_X12_116 sh_251 rfl km_251 dX12_readLanding_100 ?_
    refine V.iconst (v := 1) dX12_readLanding_103 rfl ?_
    refine V.iadd dX12_readLanding_104 ?_
    refine V.putI fl_X12_116 rfl (tyX12_ok 10 (by decide)) rfl rfl sh_251 rfl km_251 dX12_readLanding_105 ?_
    refine V.goto (tgt := 55) dX12_readLanding_108 rfl ?_
    exact V.sub [1, 0] rfl (hK55 _ _ hF)
def X12_readLanding_92 (n : Nat) (K55 : Bool → Mm → Option (Unit × Mm)) (h : Mm) : Option (Unit × Mm) := (X12_readLanding_93 n K55 false h)
set_option maxRecDepth 100000 in
set_option maxHeartbeats 4000000 in
theorem v_X12_readLanding_92 {X : WX} {G : GX} {o : Mm} {n : Nat} {K55 : Bool → Mm → Option (Unit × Mm)} {rv : Unit} {hz : Mm} (hK55 : ∀ (x1 : Bool) (h : Mm), K55 x1 h = some (rv, hz) → V X G RX12 cX12_readLanding 2 (none) 8 0 0 (QR X G false o none hz) false o 55 [(0, .ref (xa X 251)), (1, .int (b2i x1))] [] h) {h : Mm} (hF : X12_readLanding_92 n K55 h = some (rv, hz)) : V X G RX12 cX12_readLanding 2 (none) 8 0 0 (QR X G false o none hz) false o 92 [(0, .ref (xa X 251))] [] h := by
  unfold X12_readLanding_92 at hF
  refine V.iconst (v := 0) dX12_readLanding_92 rfl ?_
  exact (v_X12_readLanding_93 hK55 hF)
def X12_readLanding_141 (n : Nat) (h : Mm) : Option (Unit × Mm) := (bd (X12_fails h) (fun r48 h50 => (some ((), h50))))
set_option maxRecDepth 100000 in
set_option maxHeartbeats 4000000 in
theorem v_X12_readLanding_141 {X : WX} {G : GX} {o : Mm} {n : Nat} {rv : Unit} {hz : Mm} {h : Mm} (hF : X12_readLanding_141 n h = some (rv, hz)) : V X G RX12 cX12_readLanding 2 (none) 8 0 0 (QR X G false o none hz) false o 141 [(0, .ref (xa X 251))] [] h := by
  unfold X12_readLanding_141 at hF
  refine V.aload_n 0 dX12_readLanding_141 rfl rfl ?_
  obtain ⟨r48, h50, hc49, hF⟩ := bd_s hF
  refine V.callVi mf_X12_fails ml_X12_131 sh_251 (s_X12_fails hc49) (by decide) rfl rfl (Nat.le_of_ble_eq_true rfl) dX12_readLanding_142 ?_
  refine V.pop dX12_readLanding_145 rfl ?_
  cases hF
  exact V.vret dX12_readLanding_146
def X12_readLanding_111 (n : Nat) (h : Mm) : Option (Unit × Mm) := (if (h.1 251 11) = (-1) then (bd (X12_look n h) (fun r51 h53 => (if r51 = (-1) then (if (h53.1 251 28) = 0 then (X12_readLanding_141 n h53) else (if (h53.1 251 29) = 0 then (X12_readLanding_141 n h53) else (some ((), h53)))) else (X12_readLanding_141 n h53)))) else (some ((), h)))
set_option maxRecDepth 100000 in
set_option maxHeartbeats 4000000 in
theorem v_X12_readLanding_111 {X : WX} {G : GX} {o : Mm} {n : Nat} {rv : Unit} {hz : Mm} {h : Mm} (hF : X12_readLanding_111 n h = some (rv, hz)) : V X G RX12 cX12_readLanding 2 (none) 8 0 0 (QR X G false o none hz) false o 111 [(0, .ref (xa X 251))] [] h := by
  unfold X12_readLanding_111 at hF
  refine V.aload_n 0 dX12_readLanding_111 rfl rfl ?_
  refine V.getI fl_X12_125 sh_251 rfl km_251 dX12_readLanding_112 ?_
  refine V.iconst (v := -1) dX12_readLanding_115 rfl ?_
  refine V.icmp_ne (tgt := 146) dX12_readLanding_116 rfl (fun c => ?_) (fun c => ?_)
  · replace hF := (if_neg c).symm.trans hF
    cases hF
    exact V.vret dX12_readLanding_146
  · replace hF := (if_pos c).symm.trans hF
    refine V.aload_n 0 dX12_readLanding_119 rfl rfl ?_
    obtain ⟨r51, h53, hc52, hF⟩ := bd_s hF
    refine V.callVi mf_X12_look ml_X12_135 sh_251 (s_X12_look hc52) (by decide) rfl rfl (Nat.le_of_ble_eq_true rfl) dX12_readLanding_120 ?_
    refine V.iconst (v := -1) dX12_readLanding_123 rfl ?_
    refine V.icmp_ne (tgt := 141) dX12_readLanding_124 rfl (fun c => ?_) (fun c => ?_)
    · replace hF := (if_neg c).symm.trans hF
      exact (v_X12_readLanding_141 hF)
    · replace hF := (if_pos c).symm.trans hF
      refine V.aload_n 0 dX12_readLanding_127 rfl rfl ?_
      refine V.getI fl_X12_242 sh_251 rfl km_251 dX12_readLanding_128 ?_
      refine V.if_eq (tgt := 141) dX12_readLanding_131 rfl (fun c => ?_) (fun c => ?_)
      · replace hF := (if_pos c).symm.trans hF
        exact (v_X12_readLanding_141 hF)
      · replace hF := (if_neg c).symm.trans hF
        refine V.aload_n 0 dX12_readLanding_134 rfl rfl ?_
        refine V.getI fl_X12_245 sh_251 rfl km_251 dX12_readLanding_135 ?_
        refine V.if_ne (tgt := 146) dX12_readLanding_138 rfl (fun c => ?_) (fun c => ?_)
        · replace hF := (if_neg c).symm.trans hF
          cases hF
          exact V.vret dX12_readLanding_146
        · replace hF := (if_pos c).symm.trans hF
          exact (v_X12_readLanding_141 hF)
def X12_readLanding_55 (n : Nat) : Nat → Bool → Mm → Option (Unit × Mm)
  | 0, _, _ => none
  | f + 1, x1, h => (if x1 = true then (if (h.1 251 11) = (-1) then (bd (X12_readClause n h) (fun _ h56 => (if (h56.1 251 11) = (-1) then (bd (X12_look n h56) (fun r57 h59 => (if r57 = (59) then (X12_readLanding_93 n (X12_readLanding_55 n f) true h59) else (X12_readLanding_92 n (X12_readLanding_55 n f) h59)))) else (X12_readLanding_92 n (X12_readLanding_55 n f) h56)))) else (X12_readLanding_111 n h)) else (X12_readLanding_111 n h))
set_option maxRecDepth 100000 in
set_option maxHeartbeats 4000000 in
theorem v_X12_readLanding_55 {X : WX} {G : GX} {o : Mm} {n : Nat} {rv : Unit} {hz : Mm} : ∀ (f : Nat) (x1 : Bool) (h : Mm), X12_readLanding_55 n f x1 h = some (rv, hz) → V X G RX12 cX12_readLanding 2 (none) 8 0 0 (QR X G false o none hz) false o 55 [(0, .ref (xa X 251)), (1, .int (b2i x1))] [] h := by
  intro f
  induction f with
  | zero => intro x1 h hF; exact nomatch (show (none : Option (Unit × Mm)) = some (rv, hz) from hF)
  | succ f ih =>
    intro x1 h hF
    unfold X12_readLanding_55 at hF
    refine V.iload_n 1 dX12_readLanding_55 rfl rfl ?_
    refine V.ifz_eq (tgt := 111) dX12_readLanding_56 rfl (fun c => ?_) (fun c => ?_)
    · replace hF := (if_neg c).symm.trans hF
      exact V.sub [0] rfl (v_X12_readLanding_111 hF)
    · replace hF := (if_pos c).symm.trans hF
      refine V.aload_n 0 dX12_readLanding_59 rfl rfl ?_
      refine V.getI fl_X12_125 sh_251 rfl km_251 dX12_readLanding_60 ?_
      refine V.iconst (v := -1) dX12_readLanding_63 rfl ?_
      refine V.icmp_ne (tgt := 111) dX12_readLanding_64 rfl (fun c => ?_) (fun c => ?_)
      · replace hF := (if_neg c).symm.trans hF
        exact V.sub [0] rfl (v_X12_readLanding_111 hF)
      · replace hF := (if_pos c).symm.trans hF
        refine V.aload_n 0 dX12_readLanding_67 rfl rfl ?_
        obtain ⟨r54, h56, hc55, hF⟩ := bd_s hF
        refine V.callVv mf_X12_readClause ml_X12_258 sh_251 (s_X12_readClause hc55) (by decide) rfl rfl (Nat.le_of_ble_eq_true rfl) dX12_readLanding_68 ?_
        refine V.aload_n 0 dX12_readLanding_71 rfl rfl ?_
        refine V.getI fl_X12_125 sh_251 rfl km_251 dX12_readLanding_72 ?_
        refine V.iconst (v := -1) dX12_readLanding_75 rfl ?_
        refine V.icmp_ne (tgt := 92) dX12_readLanding_76 rfl (fun c => ?_) (fun c => ?_)
        · replace hF := (if_neg c).symm.trans hF
          exact V.sub [0] rfl (v_X12_readLanding_92 ih hF)
        · replace hF := (if_pos c).symm.trans hF
          refine V.aload_n 0 dX12_readLanding_79 rfl rfl ?_
          obtain ⟨r57, h59, hc58, hF⟩ := bd_s hF
          refine V.callVi mf_X12_look ml_X12_135 sh_251 (s_X12_look hc58) (by decide) rfl rfl (Nat.le_of_ble_eq_true rfl) dX12_readLanding_80 ?_
          refine V.bipush (v := 59) dX12_readLanding_83 (by decide) ?_
          refine V.icmp_ne (tgt := 92) dX12_readLanding_85 rfl (fun c => ?_) (fun c => ?_)
          · replace hF := (if_neg c).symm.trans hF
            exact V.sub [0] rfl (v_X12_readLanding_92 ih hF)
          · replace hF := (if_pos c).symm.trans hF
            refine V.iconst (v := 1) dX12_readLanding_88 rfl ?_
            refine V.goto (tgt := 93) dX12_readLanding_89 rfl ?_
            exact V.sub [0] rfl (v_X12_readLanding_93 ih hF)
def X12_readLanding_30 (n : Nat) : Nat → Int32 → Mm → Option (Unit × Mm)
  | 0, _, _ => none
  | f + 1, x1, h => (if (3) ≤ x1 then (X12_readLanding_55 n n true h) else (bp (X12_usual (115) x1 h) (fun r60 => (if inB x1 (aln 257) then ((X12_readLanding_30 n f) (x1 + (1)) (wI h 257 x1.toNatClampNeg r60)) else none))))
set_option maxRecDepth 100000 in
set_option maxHeartbeats 4000000 in
theorem v_X12_readLanding_30 {X : WX} {G : GX} {o : Mm} {n : Nat} {rv : Unit} {hz : Mm} : ∀ (f : Nat) (x1 : Int32) (h : Mm), X12_readLanding_30 n f x1 h = some (rv, hz) → V X G RX12 cX12_readLanding 2 (none) 8 0 0 (QR X G false o none hz) false o 30 [(0, .ref (xa X 251)), (1, .int x1)] [] h := by
  intro f
  induction f with
  | zero => intro x1 h hF; exact nomatch (show (none : Option (Unit × Mm)) = some (rv, hz) from hF)
  | succ f ih =>
    intro x1 h hF
    unfold X12_readLanding_30 at hF
    refine V.iload_n 1 dX12_readLanding_30 rfl rfl ?_
    refine V.iconst (v := 3) dX12_readLanding_31 rfl ?_
    refine V.icmp_ge (tgt := 53) dX12_readLanding_32 rfl (fun c => ?_) (fun c => ?_)
    · replace hF := (if_pos c).symm.trans hF
      refine V.iconst (v := 1) dX12_readLanding_53 rfl ?_
      refine V.istore_n [(1, _), (0, _)] dX12_readLanding_54 rfl (by decide) rfl ?_
      exact V.sub [1, 0] rfl (v_X12_readLanding_55 n _ _ hF)
    · replace hF := (if_neg c).symm.trans hF
      refine V.aload_n 0 dX12_readLanding_35 rfl rfl ?_
      refine V.getR (v := 257) fl_X12_40 sh_251 rfl fx_251_19 (by decide) dX12_readLanding_36 ?_
      refine V.iload_n 1 dX12_readLanding_39 rfl rfl ?_
      refine V.bipush (v := 115) dX12_readLanding_40 (by decide) ?_
      refine V.iload_n 1 dX12_readLanding_42 rfl rfl ?_
      obtain ⟨r60, hc61, hF⟩ := bp_s hF
      refine V.callSi mf_X12_usual ml_X12_218 (s_X12_usual hc61) (by decide) rfl rfl (Nat.le_of_ble_eq_true rfl) dX12_readLanding_43 ?_
      obtain ⟨hk, hF⟩ := ck hF
      refine V.iast io_257 hk dX12_readLanding_46 ?_
      refine V.iinc (v := (x1 + (1))) 1 [(1, _), (0, _)] dX12_readLanding_47 rfl rfl (by decide) rfl ?_
      refine V.goto (tgt := 30) dX12_readLanding_50 rfl ?_
      exact V.sub [1, 0] rfl (ih _ _ hF)
def X12_readLanding (n : Nat) (h : Mm) : Option (Unit × Mm) := (bd (X12_starts 252 (0) (h.1 251 6) h) (fun _ h64 => (X12_readLanding_30 n n (0) (wI (wI (wI h64 251 28 (0)) 251 29 (0)) 251 31 (0)))))
set_option maxRecDepth 100000 in
set_option maxHeartbeats 4000000 in
theorem s_X12_readLanding {X : WX} {o : Mm} {n : Nat} {rv : Unit} {hz : Mm} {h : Mm} (hF : X12_readLanding n h = some (rv, hz)) : Sat X yX12_readLanding cX12_readLanding 2 (none) 8 [.ref (xa X 251)] false o h none hz := by
  unfold X12_readLanding at hF
  refine Sat.mk (own := RX12) rfl (by decide +kernel) (Nat.le_of_ble_eq_true rfl) (fun G => ?_)
  refine V.sub (lv2 := [(0, _)]) [0] rfl ?_
  refine V.aload_n 0 dX12_readLanding_0 rfl rfl ?_
  refine V.aload_n 0 dX12_readLanding_1 rfl rfl ?_
  refine V.getR (v := 252) fl_X12_9 sh_251 rfl fx_251_1 (by decide) dX12_readLanding_2 ?_
  refine V.iconst (v := 0) dX12_readLanding_5 rfl ?_
  refine V.aload_n 0 dX12_readLanding_6 rfl rfl ?_
  refine V.getI fl_X12_106 sh_251 rfl km_251 dX12_readLanding_7 ?_
  obtain ⟨r62, h64, hc63, hF⟩ := bd_s hF
  refine V.callVv mf_X12_starts ml_X12_204 sh_251 (s_X12_starts io_252 hc63) (by decide) rfl rfl (Nat.le_of_ble_eq_true rfl) dX12_readLanding_10 ?_
  refine V.aload_n 0 dX12_readLanding_13 rfl rfl ?_
  refine V.iconst (v := 0) dX12_readLanding_14 rfl ?_
  refine V.putI fl_X12_242 rfl (tyX12_ok 28 (by decide)) rfl rfl sh_251 rfl km_251 dX12_readLanding_15 ?_
  refine V.aload_n 0 dX12_readLanding_18 rfl rfl ?_
  refine V.iconst (v := 0) dX12_readLanding_19 rfl ?_
  refine V.putI fl_X12_245 rfl (tyX12_ok 29 (by decide)) rfl rfl sh_251 rfl km_251 dX12_readLanding_20 ?_
  refine V.aload_n 0 dX12_readLanding_23 rfl rfl ?_
  refine V.iconst (v := 0) dX12_readLanding_24 rfl ?_
  refine V.putI fl_X12_239 rfl (tyX12_ok 31 (by decide)) rfl rfl sh_251 rfl km_251 dX12_readLanding_25 ?_
  refine V.iconst (v := 0) dX12_readLanding_28 rfl ?_
  refine V.istore_n [(1, _), (0, _)] dX12_readLanding_29 rfl (by decide) rfl ?_
  exact V.sub [1, 0] rfl (v_X12_readLanding_30 n _ _ hF)
/-! MonsterCotModel.digit -/
theorem dX12_digit_0 : decode cX12_digit 0 = .ok (.aload_n 0, 1) := by decide +kernel
theorem dX12_digit_1 : decode cX12_digit 1 = .ok (.invokevirtual 135, 3) := by decide +kernel
theorem dX12_digit_4 : decode cX12_digit 4 = .ok (.istore_n 1, 1) := by decide +kernel
theorem dX12_digit_5 : decode cX12_digit 5 = .ok (.aload_n 0, 1) := by decide +kernel
theorem dX12_digit_6 : decode cX12_digit 6 = .ok (.invokevirtual 165, 3) := by decide +kernel
theorem dX12_digit_9 : decode cX12_digit 9 = .ok (.ifCond .ne 10, 3) := by decide +kernel
theorem dX12_digit_12 : decode cX12_digit 12 = .ok (.aload_n 0, 1) := by decide +kernel
theorem dX12_digit_13 : decode cX12_digit 13 = .ok (.invokevirtual 131, 3) := by decide +kernel
theorem dX12_digit_16 : decode cX12_digit 16 = .ok (.pop, 1) := by decide +kernel
theorem dX12_digit_17 : decode cX12_digit 17 = .ok (.iconst 0, 1) := by decide +kernel
theorem dX12_digit_18 : decode cX12_digit 18 = .ok (.ireturn, 1) := by decide +kernel
theorem dX12_digit_19 : decode cX12_digit 19 = .ok (.aload_n 0, 1) := by decide +kernel
theorem dX12_digit_20 : decode cX12_digit 20 = .ok (.dup, 1) := by decide +kernel
theorem dX12_digit_21 : decode cX12_digit 21 = .ok (.getfield 116, 3) := by decide +kernel
theorem dX12_digit_24 : decode cX12_digit 24 = .ok (.iconst 1, 1) := by decide +kernel
theorem dX12_digit_25 : decode cX12_digit 25 = .ok (.iadd, 1) := by decide +kernel
theorem dX12_digit_26 : decode cX12_digit 26 = .ok (.putfield 116, 3) := by decide +kernel
theorem dX12_digit_29 : decode cX12_digit 29 = .ok (.iload_n 1, 1) := by decide +kernel
theorem dX12_digit_30 : decode cX12_digit 30 = .ok (.bipush 48, 2) := by decide +kernel
theorem dX12_digit_32 : decode cX12_digit 32 = .ok (.isub, 1) := by decide +kernel
theorem dX12_digit_33 : decode cX12_digit 33 = .ok (.ireturn, 1) := by decide +kernel
def X12_digit (n : Nat) (h : Mm) : Option (Int32 × Mm) := (bd (X12_look n h) (fun r9 h11 => (bp (X12_isDigit h11) (fun r12 => (if r12 = true then (some ((r9 - (48)), (wI h11 251 10 ((h11.1 251 10) + (1))))) else (bd (X12_fails h11) (fun r14 h16 => (some ((0), h16)))))))))
set_option maxRecDepth 100000 in
set_option maxHeartbeats 4000000 in
theorem s_X12_digit {X : WX} {o : Mm} {n : Nat} {rv : Int32} {hz : Mm} {h : Mm} (hF : X12_digit n h = some (rv, hz)) : Sat X yX12_digit cX12_digit 2 (some .int) 2 [.ref (xa X 251)] false o h (some (.int rv)) hz := by
  unfold X12_digit at hF
  refine Sat.mk (own := RX12) rfl (by decide +kernel) (Nat.le_of_ble_eq_true rfl) (fun G => ?_)
  refine V.sub (lv2 := [(0, _)]) [0] rfl ?_
  refine V.aload_n 0 dX12_digit_0 rfl rfl ?_
  obtain ⟨r9, h11, hc10, hF⟩ := bd_s hF
  refine V.callVi mf_X12_look ml_X12_135 sh_251 (s_X12_look hc10) (by decide) rfl rfl (Nat.le_of_ble_eq_true rfl) dX12_digit_1 ?_
  refine V.istore_n [(1, _), (0, _)] dX12_digit_4 rfl (by decide) rfl ?_
  refine V.aload_n 1 dX12_digit_5 rfl rfl ?_
  obtain ⟨r12, hc13, hF⟩ := bp_s hF
  refine V.callVi mf_X12_isDigit ml_X12_165 sh_251 (s_X12_isDigit hc13) (by decide) rfl rfl (Nat.le_of_ble_eq_true rfl) dX12_digit_6 ?_
  refine V.ifz_ne (tgt := 19) dX12_digit_9 rfl (fun c => ?_) (fun c => ?_)
  · replace hF := (if_pos c).symm.trans hF
    refine V.aload_n 1 dX12_digit_19 rfl rfl ?_
    refine V.dup dX12_digit_20 rfl ?_
    refine V.getI fl_X12_116 sh_251 rfl km_251 dX12_digit_21 ?_
    refine V.iconst (v := 1) dX12_digit_24 rfl ?_
    refine V.iadd dX12_digit_25 ?_
    refine V.putI fl_X12_116 rfl (tyX12_ok 10 (by decide)) rfl rfl sh_251 rfl km_251 dX12_digit_26 ?_
    refine V.iload_n 0 dX12_digit_29 rfl rfl ?_
    refine V.bipush (v := 48) dX12_digit_30 (by decide) ?_
    refine V.isub dX12_digit_32 ?_
    cases hF
    exact V.iret dX12_digit_33
  · replace hF := (if_neg c).symm.trans hF
    refine V.aload_n 1 dX12_digit_12 rfl rfl ?_
    obtain ⟨r14, h16, hc15, hF⟩ := bd_s hF
    refine V.callVi mf_X12_fails ml_X12_131 sh_251 (s_X12_fails hc15) (by decide) rfl rfl (Nat.le_of_ble_eq_true rfl) dX12_digit_13 ?_
    refine V.pop dX12_digit_16 rfl ?_
    refine V.iconst (v := 0) dX12_digit_17 rfl ?_
    cases hF
    exact V.iret dX12_digit_18
/-! MonsterCotModel.readStep -/
theorem dX12_readStep_0 : decode cX12_readStep 0 = .ok (.ldc_w 261, 3) := by decide +kernel
theorem dX12_readStep_3 : decode cX12_readStep 3 = .ok (.aload_n 0, 1) := by decide +kernel
theorem dX12_readStep_4 : decode cX12_readStep 4 = .ok (.invokevirtual 135, 3) := by decide +kernel
theorem dX12_readStep_7 : decode cX12_readStep 7 = .ok (.invokestatic 222, 3) := by decide +kernel
theorem dX12_readStep_10 : decode cX12_readStep 10 = .ok (.istore_n 2, 1) := by decide +kernel
theorem dX12_readStep_11 : decode cX12_readStep 11 = .ok (.iload_n 2, 1) := by decide +kernel
theorem dX12_readStep_12 : decode cX12_readStep 12 = .ok (.iconst (-1), 1) := by decide +kernel
theorem dX12_readStep_13 : decode cX12_readStep 13 = .ok (.if_icmp .ne 9, 3) := by decide +kernel
theorem dX12_readStep_16 : decode cX12_readStep 16 = .ok (.aload_n 0, 1) := by decide +kernel
theorem dX12_readStep_17 : decode cX12_readStep 17 = .ok (.invokevirtual 131, 3) := by decide +kernel
theorem dX12_readStep_20 : decode cX12_readStep 20 = .ok (.pop, 1) := by decide +kernel
theorem dX12_readStep_21 : decode cX12_readStep 21 = .ok (.return_, 1) := by decide +kernel
theorem dX12_readStep_22 : decode cX12_readStep 22 = .ok (.aload_n 0, 1) := by decide +kernel
theorem dX12_readStep_23 : decode cX12_readStep 23 = .ok (.dup, 1) := by decide +kernel
theorem dX12_readStep_24 : decode cX12_readStep 24 = .ok (.getfield 116, 3) := by decide +kernel
theorem dX12_readStep_27 : decode cX12_readStep 27 = .ok (.iconst 1, 1) := by decide +kernel
theorem dX12_readStep_28 : decode cX12_readStep 28 = .ok (.iadd, 1) := by decide +kernel
theorem dX12_readStep_29 : decode cX12_readStep 29 = .ok (.putfield 116, 3) := by decide +kernel
theorem dX12_readStep_32 : decode cX12_readStep 32 = .ok (.aload_n 0, 1) := by decide +kernel
theorem dX12_readStep_33 : decode cX12_readStep 33 = .ok (.getfield 55, 3) := by decide +kernel
theorem dX12_readStep_36 : decode cX12_readStep 36 = .ok (.iload_n 1, 1) := by decide +kernel
theorem dX12_readStep_37 : decode cX12_readStep 37 = .ok (.iload_n 2, 1) := by decide +kernel
theorem dX12_readStep_38 : decode cX12_readStep 38 = .ok (.iastore, 1) := by decide +kernel
theorem dX12_readStep_39 : decode cX12_readStep 39 = .ok (.aload_n 0, 1) := by decide +kernel
theorem dX12_readStep_40 : decode cX12_readStep 40 = .ok (.getfield 55, 3) := by decide +kernel
theorem dX12_readStep_43 : decode cX12_readStep 43 = .ok (.iload_n 1, 1) := by decide +kernel
theorem dX12_readStep_44 : decode cX12_readStep 44 = .ok (.iconst 1, 1) := by decide +kernel
theorem dX12_readStep_45 : decode cX12_readStep 45 = .ok (.iadd, 1) := by decide +kernel
theorem dX12_readStep_46 : decode cX12_readStep 46 = .ok (.iconst (-1), 1) := by decide +kernel
theorem dX12_readStep_47 : decode cX12_readStep 47 = .ok (.iastore, 1) := by decide +kernel
theorem dX12_readStep_48 : decode cX12_readStep 48 = .ok (.aload_n 0, 1) := by decide +kernel
theorem dX12_readStep_49 : decode cX12_readStep 49 = .ok (.getfield 55, 3) := by decide +kernel
theorem dX12_readStep_52 : decode cX12_readStep 52 = .ok (.iload_n 1, 1) := by decide +kernel
theorem dX12_readStep_53 : decode cX12_readStep 53 = .ok (.iconst 2, 1) := by decide +kernel
theorem dX12_readStep_54 : decode cX12_readStep 54 = .ok (.iadd, 1) := by decide +kernel
theorem dX12_readStep_55 : decode cX12_readStep 55 = .ok (.iconst (-1), 1) := by decide +kernel
theorem dX12_readStep_56 : decode cX12_readStep 56 = .ok (.iastore, 1) := by decide +kernel
theorem dX12_readStep_57 : decode cX12_readStep 57 = .ok (.iload_n 2, 1) := by decide +kernel
theorem dX12_readStep_58 : decode cX12_readStep 58 = .ok (.iconst 2, 1) := by decide +kernel
theorem dX12_readStep_59 : decode cX12_readStep 59 = .ok (.if_icmp .lt 8, 3) := by decide +kernel
theorem dX12_readStep_62 : decode cX12_readStep 62 = .ok (.iload_n 2, 1) := by decide +kernel
theorem dX12_readStep_63 : decode cX12_readStep 63 = .ok (.iconst 4, 1) := by decide +kernel
theorem dX12_readStep_64 : decode cX12_readStep 64 = .ok (.if_icmp .ne 15, 3) := by decide +kernel
theorem dX12_readStep_67 : decode cX12_readStep 67 = .ok (.aload_n 0, 1) := by decide +kernel
theorem dX12_readStep_68 : decode cX12_readStep 68 = .ok (.getfield 55, 3) := by decide +kernel
theorem dX12_readStep_71 : decode cX12_readStep 71 = .ok (.iload_n 1, 1) := by decide +kernel
theorem dX12_readStep_72 : decode cX12_readStep 72 = .ok (.iconst 1, 1) := by decide +kernel
theorem dX12_readStep_73 : decode cX12_readStep 73 = .ok (.iadd, 1) := by decide +kernel
theorem dX12_readStep_74 : decode cX12_readStep 74 = .ok (.aload_n 0, 1) := by decide +kernel
theorem dX12_readStep_75 : decode cX12_readStep 75 = .ok (.invokevirtual 263, 3) := by decide +kernel
theorem dX12_readStep_78 : decode cX12_readStep 78 = .ok (.iastore, 1) := by decide +kernel
theorem dX12_readStep_79 : decode cX12_readStep 79 = .ok (.aload_n 0, 1) := by decide +kernel
theorem dX12_readStep_80 : decode cX12_readStep 80 = .ok (.getfield 125, 3) := by decide +kernel
theorem dX12_readStep_83 : decode cX12_readStep 83 = .ok (.iconst (-1), 1) := by decide +kernel
theorem dX12_readStep_84 : decode cX12_readStep 84 = .ok (.if_icmp .ne 20, 3) := by decide +kernel
theorem dX12_readStep_87 : decode cX12_readStep 87 = .ok (.iload_n 2, 1) := by decide +kernel
theorem dX12_readStep_88 : decode cX12_readStep 88 = .ok (.iconst 2, 1) := by decide +kernel
theorem dX12_readStep_89 : decode cX12_readStep 89 = .ok (.if_icmp .ge 15, 3) := by decide +kernel
theorem dX12_readStep_92 : decode cX12_readStep 92 = .ok (.aload_n 0, 1) := by decide +kernel
theorem dX12_readStep_93 : decode cX12_readStep 93 = .ok (.getfield 55, 3) := by decide +kernel
theorem dX12_readStep_96 : decode cX12_readStep 96 = .ok (.iload_n 1, 1) := by decide +kernel
theorem dX12_readStep_97 : decode cX12_readStep 97 = .ok (.iconst 2, 1) := by decide +kernel
theorem dX12_readStep_98 : decode cX12_readStep 98 = .ok (.iadd, 1) := by decide +kernel
theorem dX12_readStep_99 : decode cX12_readStep 99 = .ok (.aload_n 0, 1) := by decide +kernel
theorem dX12_readStep_100 : decode cX12_readStep 100 = .ok (.invokevirtual 263, 3) := by decide +kernel
theorem dX12_readStep_103 : decode cX12_readStep 103 = .ok (.iastore, 1) := by decide +kernel
theorem dX12_readStep_104 : decode cX12_readStep 104 = .ok (.return_, 1) := by decide +kernel
def X12_readStep_79 (n : Nat) (x1 : Int32) (x2 : Int32) (h : Mm) : Option (Unit × Mm) := (if (h.1 251 11) = (-1) then (if (2) ≤ x2 then (some ((), h)) else (bd (X12_digit n h) (fun r29 h31 => (if inB (x1 + (2)) (aln 262) then (some ((), (wI h31 262 (x1 + (2)).toNatClampNeg r29))) else none)))) else (some ((), h)))
set_option maxRecDepth 100000 in
set_option maxHeartbeats 4000000 in
theorem v_X12_readStep_79 {X : WX} {G : GX} {o : Mm} {n : Nat} {rv : Unit} {hz : Mm} {x1 : Int32} {x2 : Int32} {h : Mm} (hF : X12_readStep_79 n x1 x2 h = some (rv, hz)) : V X G RX12 cX12_readStep 3 (none) 6 0 0 (QR X G false o none hz) false o 79 [(0, .ref (xa X 251)), (1, .int x1), (2, .int x2)] [] h := by
  unfold X12_readStep_79 at hF
  refine V.aload_n 0 dX12_readStep_79 rfl rfl ?_
  refine V.getI fl_X12_125 sh_251 rfl km_251 dX12_readStep_80 ?_
  refine V.iconst (v := -1) dX12_readStep_83 rfl ?_
  refine V.icmp_ne (tgt := 104) dX12_readStep_84 rfl (fun c => ?_) (fun c => ?_)
  · replace hF := (if_neg c).symm.trans hF
    cases hF
    exact V.vret dX12_readStep_104
  · replace hF := (if_pos c).symm.trans hF
    refine V.iload_n 2 dX12_readStep_87 rfl rfl ?_
    refine V.iconst (v := 2) dX12_readStep_88 rfl ?_
    refine V.icmp_ge (tgt := 104) dX12_readStep_89 rfl (fun c => ?_) (fun c => ?_)
    · replace hF := (if_pos c).symm.trans hF
      cases hF
      exact V.vret dX12_readStep_104
    · replace hF := (if_neg c).symm.trans hF
      refine V.aload_n 0 dX12_readStep_92 rfl rfl ?_
      refine V.getR (v := 262) fl_X12_55 sh_251 rfl fx_251_24 (by decide) dX12_readStep_93 ?_
      refine V.iload_n 1 dX12_readStep_96 rfl rfl ?_
      refine V.iconst (v := 2) dX12_readStep_97 rfl ?_
      refine V.iadd dX12_readStep_98 ?_
      refine V.aload_n 0 dX12_readStep_99 rfl rfl ?_
      obtain ⟨r29, h31, hc30, hF⟩ := bd_s hF
      refine V.callVi mf_X12_digit ml_X12_263 sh_251 (s_X12_digit hc30) (by decide) rfl rfl (Nat.le_of_ble_eq_true rfl) dX12_readStep_100 ?_
      obtain ⟨hk, hF⟩ := ck hF
      refine V.iast io_262 hk dX12_readStep_103 ?_
      cases hF
      exact V.vret dX12_readStep_104
def X12_readStep_67 (n : Nat) (x1 : Int32) (x2 : Int32) (h : Mm) : Option (Unit × Mm) := (bd (X12_digit n h) (fun r32 h34 => (if inB (x1 + (1)) (aln 262) then (X12_readStep_79 n x1 x2 (wI h34 262 (x1 + (1)).toNatClampNeg r32)) else none)))
set_option maxRecDepth 100000 in
set_option maxHeartbeats 4000000 in
theorem v_X12_readStep_67 {X : WX} {G : GX} {o : Mm} {n : Nat} {rv : Unit} {hz : Mm} {x1 : Int32} {x2 : Int32} {h : Mm} (hF : X12_readStep_67 n x1 x2 h = some (rv, hz)) : V X G RX12 cX12_readStep 3 (none) 6 0 0 (QR X G false o none hz) false o 67 [(0, .ref (xa X 251)), (1, .int x1), (2, .int x2)] [] h := by
  unfold X12_readStep_67 at hF
  refine V.aload_n 0 dX12_readStep_67 rfl rfl ?_
  refine V.getR (v := 262) fl_X12_55 sh_251 rfl fx_251_24 (by decide) dX12_readStep_68 ?_
  refine V.iload_n 1 dX12_readStep_71 rfl rfl ?_
  refine V.iconst (v := 1) dX12_readStep_72 rfl ?_
  refine V.iadd dX12_readStep_73 ?_
  refine V.aload_n 0 dX12_readStep_74 rfl rfl ?_
  obtain ⟨r32, h34, hc33, hF⟩ := bd_s hF
  refine V.callVi mf_X12_digit ml_X12_263 sh_251 (s_X12_digit hc33) (by decide) rfl rfl (Nat.le_of_ble_eq_true rfl) dX12_readStep_75 ?_
  obtain ⟨hk, hF⟩ := ck hF
  refine V.iast io_262 hk dX12_readStep_78 ?_
  exact (v_X12_readStep_79 hF)
def X12_readStep (n : Nat) (x1 : Int32) (h : Mm) : Option (Unit × Mm) := (bd (X12_look n h) (fun r35 h37 => (bp (X12_spotOf n 1036 r35 h37) (fun r38 => (if r38 = (-1) then (bd (X12_fails h37) (fun r40 h42 => (some ((), h42)))) else (if inB x1 (aln 262) then (if inB (x1 + (1)) (aln 262) then (if inB (x1 + (2)) (aln 262) then (if r38 < (2) then (X12_readStep_67 n x1 r38 (wI (wI (wI (wI h37 251 10 ((h37.1 251 10) + (1))) 262 x1.toNatClampNeg r38) 262 (x1 + (1)).toNatClampNeg (-1)) 262 (x1 + (2)).toNatClampNeg (-1))) else (if r38 = (4) then (X12_readStep_67 n x1 r38 (wI (wI (wI (wI h37 251 10 ((h37.1 251 10) + (1))) 262 x1.toNatClampNeg r38) 262 (x1 + (1)).toNatClampNeg (-1)) 262 (x1 + (2)).toNatClampNeg (-1))) else (X12_readStep_79 n x1 r38 (wI (wI (wI (wI h37 251 10 ((h37.1 251 10) + (1))) 262 x1.toNatClampNeg r38) 262 (x1 + (1)).toNatClampNeg (-1)) 262 (x1 + (2)).toNatClampNeg (-1))))) else none) else none) else none))))))
set_option maxRecDepth 100000 in
set_option maxHeartbeats 4000000 in
theorem s_X12_readStep {X : WX} {o : Mm} {n : Nat} {x1 : Int32} {rv : Unit} {hz : Mm} {h : Mm} (hF : X12_readStep n x1 h = some (rv, hz)) : Sat X yX12_readStep cX12_readStep 3 (none) 6 [.ref (xa X 251), .int x1] false o h none hz := by
  unfold X12_readStep at hF
  refine Sat.mk (own := RX12) rfl (by decide +kernel) (Nat.le_of_ble_eq_true rfl) (fun G => ?_)
  refine V.sub (lv2 := [(0, _), (1, _)]) [0, 1] rfl ?_
  refine V.ldcSw sc_1036 rfl rfl dX12_readStep_0 ?_
  refine V.aload_n 0 dX12_readStep_3 rfl rfl ?_
  obtain ⟨r35, h37, hc36, hF⟩ := bd_s hF
  refine V.callVi mf_X12_look ml_X12_135 sh_251 (s_X12_look hc36) (by decide) rfl rfl (Nat.le_of_ble_eq_true rfl) dX12_readStep_4 ?_
  obtain ⟨r38, hc39, hF⟩ := bp_s hF
  refine V.callSi mf_X12_spotOf ml_X12_222 (s_X12_spotOf ⟨by decide, by decide⟩ hc39) (by decide) rfl rfl (Nat.le_of_ble_eq_true rfl) dX12_readStep_7 ?_
  refine V.istore_n [(2, _), (0, _), (1, _)] dX12_readStep_10 rfl (by decide) rfl ?_
  refine V.iload_n 0 dX12_readStep_11 rfl rfl ?_
  refine V.iconst (v := -1) dX12_readStep_12 rfl ?_
  refine V.icmp_ne (tgt := 22) dX12_readStep_13 rfl (fun c => ?_) (fun c => ?_)
  · replace hF := (if_neg c).symm.trans hF
    refine V.aload_n 1 dX12_readStep_22 rfl rfl ?_
    refine V.dup dX12_readStep_23 rfl ?_
    refine V.getI fl_X12_116 sh_251 rfl km_251 dX12_readStep_24 ?_
    refine V.iconst (v := 1) dX12_readStep_27 rfl ?_
    refine V.iadd dX12_readStep_28 ?_
    refine V.putI fl_X12_116 rfl (tyX12_ok 10 (by decide)) rfl rfl sh_251 rfl km_251 dX12_readStep_29 ?_
    refine V.aload_n 1 dX12_readStep_32 rfl rfl ?_
    refine V.getR (v := 262) fl_X12_55 sh_251 rfl fx_251_24 (by decide) dX12_readStep_33 ?_
    refine V.iload_n 2 dX12_readStep_36 rfl rfl ?_
    refine V.iload_n 0 dX12_readStep_37 rfl rfl ?_
    obtain ⟨hk, hF⟩ := ck hF
    refine V.iast io_262 hk dX12_readStep_38 ?_
    refine V.aload_n 1 dX12_readStep_39 rfl rfl ?_
    refine V.getR (v := 262) fl_X12_55 sh_251 rfl fx_251_24 (by decide) dX12_readStep_40 ?_
    refine V.iload_n 2 dX12_readStep_43 rfl rfl ?_
    refine V.iconst (v := 1) dX12_readStep_44 rfl ?_
    refine V.iadd dX12_readStep_45 ?_
    refine V.iconst (v := -1) dX12_readStep_46 rfl ?_
    obtain ⟨hk, hF⟩ := ck hF
    refine V.iast io_262 hk dX12_readStep_47 ?_
    refine V.aload_n 1 dX12_readStep_48 rfl rfl ?_
    refine V.getR (v := 262) fl_X12_55 sh_251 rfl fx_251_24 (by decide) dX12_readStep_49 ?_
    refine V.iload_n 2 dX12_readStep_52 rfl rfl ?_
    refine V.iconst (v := 2) dX12_readStep_53 rfl ?_
    refine V.iadd dX12_readStep_54 ?_
    refine V.iconst (v := -1) dX12_readStep_55 rfl ?_
    obtain ⟨hk, hF⟩ := ck hF
    refine V.iast io_262 hk dX12_readStep_56 ?_
    refine V.iload_n 0 dX12_readStep_57 rfl rfl ?_
    refine V.iconst (v := 2) dX12_readStep_58 rfl ?_
    refine V.icmp_lt (tgt := 67) dX12_readStep_59 rfl (fun c => ?_) (fun c => ?_)
    · replace hF := (if_pos c).symm.trans hF
      exact V.sub [1, 2, 0] rfl (v_X12_readStep_67 hF)
    · replace hF := (if_neg c).symm.trans hF
      refine V.iload_n 0 dX12_readStep_62 rfl rfl ?_
      refine V.iconst (v := 4) dX12_readStep_63 rfl ?_
      refine V.icmp_ne (tgt := 79) dX12_readStep_64 rfl (fun c => ?_) (fun c => ?_)
      · replace hF := (if_neg c).symm.trans hF
        exact V.sub [1, 2, 0] rfl (v_X12_readStep_79 hF)
      · replace hF := (if_pos c).symm.trans hF
        exact V.sub [1, 2, 0] rfl (v_X12_readStep_67 hF)
  · replace hF := (if_pos c).symm.trans hF
    refine V.aload_n 1 dX12_readStep_16 rfl rfl ?_
    obtain ⟨r40, h42, hc41, hF⟩ := bd_s hF
    refine V.callVi mf_X12_fails ml_X12_131 sh_251 (s_X12_fails hc41) (by decide) rfl rfl (Nat.le_of_ble_eq_true rfl) dX12_readStep_17 ?_
    refine V.pop dX12_readStep_20 rfl ?_
    cases hF
    exact V.vret dX12_readStep_21
/-! MonsterCotModel.readWeek -/
theorem dX12_readWeek_0 : decode cX12_readWeek 0 = .ok (.aload_n 0, 1) := by decide +kernel
theorem dX12_readWeek_1 : decode cX12_readWeek 1 = .ok (.aload_n 0, 1) := by decide +kernel
theorem dX12_readWeek_2 : decode cX12_readWeek 2 = .ok (.getfield 9, 3) := by decide +kernel
theorem dX12_readWeek_5 : decode cX12_readWeek 5 = .ok (.iconst 0, 1) := by decide +kernel
theorem dX12_readWeek_6 : decode cX12_readWeek 6 = .ok (.aload_n 0, 1) := by decide +kernel
theorem dX12_readWeek_7 : decode cX12_readWeek 7 = .ok (.getfield 106, 3) := by decide +kernel
theorem dX12_readWeek_10 : decode cX12_readWeek 10 = .ok (.invokevirtual 204, 3) := by decide +kernel
theorem dX12_readWeek_13 : decode cX12_readWeek 13 = .ok (.iconst 0, 1) := by decide +kernel
theorem dX12_readWeek_14 : decode cX12_readWeek 14 = .ok (.istore_n 1, 1) := by decide +kernel
theorem dX12_readWeek_15 : decode cX12_readWeek 15 = .ok (.iconst 1, 1) := by decide +kernel
theorem dX12_readWeek_16 : decode cX12_readWeek 16 = .ok (.istore_n 2, 1) := by decide +kernel
theorem dX12_readWeek_17 : decode cX12_readWeek 17 = .ok (.iload_n 2, 1) := by decide +kernel
theorem dX12_readWeek_18 : decode cX12_readWeek 18 = .ok (.ifCond .eq 73, 3) := by decide +kernel
theorem dX12_readWeek_21 : decode cX12_readWeek 21 = .ok (.aload_n 0, 1) := by decide +kernel
theorem dX12_readWeek_22 : decode cX12_readWeek 22 = .ok (.iconst 3, 1) := by decide +kernel
theorem dX12_readWeek_23 : decode cX12_readWeek 23 = .ok (.bipush 64, 2) := by decide +kernel
theorem dX12_readWeek_25 : decode cX12_readWeek 25 = .ok (.iload_n 1, 1) := by decide +kernel
theorem dX12_readWeek_26 : decode cX12_readWeek 26 = .ok (.iadd, 1) := by decide +kernel
theorem dX12_readWeek_27 : decode cX12_readWeek 27 = .ok (.imul, 1) := by decide +kernel
theorem dX12_readWeek_28 : decode cX12_readWeek 28 = .ok (.invokevirtual 266, 3) := by decide +kernel
theorem dX12_readWeek_31 : decode cX12_readWeek 31 = .ok (.aload_n 0, 1) := by decide +kernel
theorem dX12_readWeek_32 : decode cX12_readWeek 32 = .ok (.getfield 125, 3) := by decide +kernel
theorem dX12_readWeek_35 : decode cX12_readWeek 35 = .ok (.iconst (-1), 1) := by decide +kernel
theorem dX12_readWeek_36 : decode cX12_readWeek 36 = .ok (.if_icmp .eq 4, 3) := by decide +kernel
theorem dX12_readWeek_39 : decode cX12_readWeek 39 = .ok (.return_, 1) := by decide +kernel
theorem dX12_readWeek_40 : decode cX12_readWeek 40 = .ok (.iinc 1 1, 3) := by decide +kernel
theorem dX12_readWeek_43 : decode cX12_readWeek 43 = .ok (.aload_n 0, 1) := by decide +kernel
theorem dX12_readWeek_44 : decode cX12_readWeek 44 = .ok (.invokevirtual 135, 3) := by decide +kernel
theorem dX12_readWeek_47 : decode cX12_readWeek 47 = .ok (.bipush 59, 2) := by decide +kernel
theorem dX12_readWeek_49 : decode cX12_readWeek 49 = .ok (.if_icmp .ne 7, 3) := by decide +kernel
theorem dX12_readWeek_52 : decode cX12_readWeek 52 = .ok (.iconst 1, 1) := by decide +kernel
theorem dX12_readWeek_53 : decode cX12_readWeek 53 = .ok (.goto 4, 3) := by decide +kernel
theorem dX12_readWeek_56 : decode cX12_readWeek 56 = .ok (.iconst 0, 1) := by decide +kernel
theorem dX12_readWeek_57 : decode cX12_readWeek 57 = .ok (.istore_n 2, 1) := by decide +kernel
theorem dX12_readWeek_58 : decode cX12_readWeek 58 = .ok (.iload_n 2, 1) := by decide +kernel
theorem dX12_readWeek_59 : decode cX12_readWeek 59 = .ok (.ifCond .eq 15, 3) := by decide +kernel
theorem dX12_readWeek_62 : decode cX12_readWeek 62 = .ok (.iload_n 1, 1) := by decide +kernel
theorem dX12_readWeek_63 : decode cX12_readWeek 63 = .ok (.bipush 16, 2) := by decide +kernel
theorem dX12_readWeek_65 : decode cX12_readWeek 65 = .ok (.if_icmp .ne 9, 3) := by decide +kernel
theorem dX12_readWeek_68 : decode cX12_readWeek 68 = .ok (.aload_n 0, 1) := by decide +kernel
theorem dX12_readWeek_69 : decode cX12_readWeek 69 = .ok (.invokevirtual 131, 3) := by decide +kernel
theorem dX12_readWeek_72 : decode cX12_readWeek 72 = .ok (.pop, 1) := by decide +kernel
theorem dX12_readWeek_73 : decode cX12_readWeek 73 = .ok (.return_, 1) := by decide +kernel
theorem dX12_readWeek_74 : decode cX12_readWeek 74 = .ok (.iload_n 2, 1) := by decide +kernel
theorem dX12_readWeek_75 : decode cX12_readWeek 75 = .ok (.ifCond .eq (-58), 3) := by decide +kernel
theorem dX12_readWeek_78 : decode cX12_readWeek 78 = .ok (.aload_n 0, 1) := by decide +kernel
theorem dX12_readWeek_79 : decode cX12_readWeek 79 = .ok (.dup, 1) := by decide +kernel
theorem dX12_readWeek_80 : decode cX12_readWeek 80 = .ok (.getfield 116, 3) := by decide +kernel
theorem dX12_readWeek_83 : decode cX12_readWeek 83 = .ok (.iconst 1, 1) := by decide +kernel
theorem dX12_readWeek_84 : decode cX12_readWeek 84 = .ok (.iadd, 1) := by decide +kernel
theorem dX12_readWeek_85 : decode cX12_readWeek 85 = .ok (.putfield 116, 3) := by decide +kernel
theorem dX12_readWeek_88 : decode cX12_readWeek 88 = .ok (.goto (-71), 3) := by decide +kernel
theorem dX12_readWeek_91 : decode cX12_readWeek 91 = .ok (.aload_n 0, 1) := by decide +kernel
theorem dX12_readWeek_92 : decode cX12_readWeek 92 = .ok (.getfield 58, 3) := by decide +kernel
theorem dX12_readWeek_95 : decode cX12_readWeek 95 = .ok (.iconst 4, 1) := by decide +kernel
theorem dX12_readWeek_96 : decode cX12_readWeek 96 = .ok (.iload_n 1, 1) := by decide +kernel
theorem dX12_readWeek_97 : decode cX12_readWeek 97 = .ok (.iastore, 1) := by decide +kernel
theorem dX12_readWeek_98 : decode cX12_readWeek 98 = .ok (.aload_n 0, 1) := by decide +kernel
theorem dX12_readWeek_99 : decode cX12_readWeek 99 = .ok (.invokevirtual 135, 3) := by decide +kernel
theorem dX12_readWeek_102 : decode cX12_readWeek 102 = .ok (.iconst (-1), 1) := by decide +kernel
theorem dX12_readWeek_103 : decode cX12_readWeek 103 = .ok (.if_icmp .eq 8, 3) := by decide +kernel
theorem dX12_readWeek_106 : decode cX12_readWeek 106 = .ok (.aload_n 0, 1) := by decide +kernel
theorem dX12_readWeek_107 : decode cX12_readWeek 107 = .ok (.invokevirtual 131, 3) := by decide +kernel
theorem dX12_readWeek_110 : decode cX12_readWeek 110 = .ok (.pop, 1) := by decide +kernel
theorem dX12_readWeek_111 : decode cX12_readWeek 111 = .ok (.return_, 1) := by decide +kernel
def X12_readWeek_74 (n : Nat) (K17 : Int32 → Bool → Mm → Option (Unit × Mm)) (x1 : Int32) (x2 : Bool) (h : Mm) : Option (Unit × Mm) := (if x2 = true then (K17 x1 x2 (wI h 251 10 ((h.1 251 10) + (1)))) else (K17 x1 x2 h))
set_option maxRecDepth 100000 in
set_option maxHeartbeats 4000000 in
theorem v_X12_readWeek_74 {X : WX} {G : GX} {o : Mm} {n : Nat} {K17 : Int32 → Bool → Mm → Option (Unit × Mm)} {rv : Unit} {hz : Mm} (hK17 : ∀ (x1 : Int32) (x2 : Bool) (h : Mm), K17 x1 x2 h = some (rv, hz) → V X G RX12 cX12_readWeek 3 (none) 7 0 0 (QR X G false o none hz) false o 17 [(0, .ref (xa X 251)), (1, .int x1), (2, .int (b2i x2))] [] h) {x1 : Int32} {x2 : Bool} {h : Mm} (hF : X12_readWeek_74 n K17 x1 x2 h = some (rv, hz)) : V X G RX12 cX12_readWeek 3 (none) 7 0 0 (QR X G false o none hz) false o 74 [(0, .ref (xa X 251)), (1, .int x1), (2, .int (b2i x2))] [] h := by
  unfold X12_readWeek_74 at hF
  refine V.iload_n 2 dX12_readWeek_74 rfl rfl ?_
  refine V.ifz_eq (tgt := 17) dX12_readWeek_75 rfl (fun c => ?_) (fun c => ?_)
  · replace hF := (if_neg c).symm.trans hF
    exact hK17 _ _ _ hF
  · replace hF := (if_pos c).symm.trans hF
    refine V.aload_n 0 dX12_readWeek_78 rfl rfl ?_
    refine V.dup dX12_readWeek_79 rfl ?_
    refine V.getI fl_X12_116 sh_251 rfl km_251 dX12_readWeek_80 ?_
    refine V.iconst (v := 1) dX12_readWeek_83 rfl ?_
    refine V.iadd dX12_readWeek_84 ?_
    refine V.putI fl_X12_116 rfl (tyX12_ok 10 (by decide)) rfl rfl sh_251 rfl km_251 dX12_readWeek_85 ?_
    refine V.goto (tgt := 17) dX12_readWeek_88 rfl ?_
    exact hK17 _ _ _ hF
def X12_readWeek_57 (n : Nat) (K17 : Int32 → Bool → Mm → Option (Unit × Mm)) (x1 : Int32) (s0 : Bool) (h : Mm) : Option (Unit × Mm) := (if s0 = true then (if x1 = (16) then (bd (X12_fails h) (fun r70 h72 => (some ((), h72)))) else (X12_readWeek_74 n K17 x1 s0 h)) else (X12_readWeek_74 n K17 x1 s0 h))
set_option maxRecDepth 100000 in
set_option maxHeartbeats 4000000 in
theorem v_X12_readWeek_57 {X : WX} {G : GX} {o : Mm} {n : Nat} {K17 : Int32 → Bool → Mm → Option (Unit × Mm)} {rv : Unit} {hz : Mm} (hK17 : ∀ (x1 : Int32) (x2 : Bool) (h : Mm), K17 x1 x2 h = some (rv, hz) → V X G RX12 cX12_readWeek 3 (none) 7 0 0 (QR X G false o none hz) false o 17 [(0, .ref (xa X 251)), (1, .int x1), (2, .int (b2i x2))] [] h) {x1 : Int32} {s0 : Bool} {h : Mm} (hF : X12_readWeek_57 n K17 x1 s0 h = some (rv, hz)) : V X G RX12 cX12_readWeek 3 (none) 7 0 0 (QR X G false o none hz) false o 57 [(0, .ref (xa X 251)), (1, .int x1)] [.int (b2i s0)] h := by
  unfold X12_readWeek_57 at hF
  refine V.istore_n [(2, _), (0, _), (1, _)] dX12_readWeek_57 rfl (by decide) rfl ?_
  refine V.iload_n 0 dX12_readWeek_58 rfl rfl ?_
  refine V.ifz_eq (tgt := 74) dX12_readWeek_59 rfl (fun c => ?_) (fun c => ?_)
  · replace hF := (if_neg c).symm.trans hF
    exact V.sub [1, 2, 0] rfl (v_X12_readWeek_74 hK17 hF)
  · replace hF := (if_pos c).symm.trans hF
    refine V.iload_n 2 dX12_readWeek_62 rfl rfl ?_
    refine V.bipush (v := 16) dX12_readWeek_63 (by decide) ?_
    refine V.icmp_ne (tgt := 74) dX12_readWeek_65 rfl (fun c => ?_) (fun c => ?_)
    · replace hF := (if_neg c).symm.trans hF
      exact V.sub [1, 2, 0] rfl (v_X12_readWeek_74 hK17 hF)
    · replace hF := (if_pos c).symm.trans hF
      refine V.aload_n 1 dX12_readWeek_68 rfl rfl ?_
      obtain ⟨r70, h72, hc71, hF⟩ := bd_s hF
      refine V.callVi mf_X12_fails ml_X12_131 sh_251 (s_X12_fails hc71) (by decide) rfl rfl (Nat.le_of_ble_eq_true rfl) dX12_readWeek_69 ?_
      refine V.pop dX12_readWeek_72 rfl ?_
      cases hF
      exact V.vret dX12_readWeek_73
def X12_readWeek_17 (n : Nat) : Nat → Int32 → Bool → Mm → Option (Unit × Mm)
  | 0, _, _, _ => none
  | f + 1, x1, x2, h => (if x2 = true then (bd (X12_readStep n ((3) * ((64) + x1)) h) (fun _ h81 => (if (h81.1 251 11) = (-1) then (bd (X12_look n h81) (fun r82 h84 => (if r82 = (59) then (X12_readWeek_57 n (X12_readWeek_17 n f) (x1 + (1)) true h84) else (X12_readWeek_57 n (X12_readWeek_17 n f) (x1 + (1)) false h84)))) else (some ((), h81))))) else (if inB (4) (aln 263) then (bd (X12_look n (wI h 263 (4).toNatClampNeg x1)) (fun r73 h75 => (if r73 = (-1) then (some ((), h75)) else (bd (X12_fails h75) (fun r76 h78 => (some ((), h78))))))) else none))
set_option maxRecDepth 100000 in
set_option maxHeartbeats 4000000 in
theorem v_X12_readWeek_17 {X : WX} {G : GX} {o : Mm} {n : Nat} {rv : Unit} {hz : Mm} : ∀ (f : Nat) (x1 : Int32) (x2 : Bool) (h : Mm), X12_readWeek_17 n f x1 x2 h = some (rv, hz) → V X G RX12 cX12_readWeek 3 (none) 7 0 0 (QR X G false o none hz) false o 17 [(0, .ref (xa X 251)), (1, .int x1), (2, .int (b2i x2))] [] h := by
  intro f
  induction f with
  | zero => intro x1 x2 h hF; exact nomatch (show (none : Option (Unit × Mm)) = some (rv, hz) from hF)
  | succ f ih =>
    intro x1 x2 h hF
    unfold X12_readWeek_17 at hF
    refine V.iload_n 2 dX12_readWeek_17 rfl rfl ?_
    refine V.ifz_eq (tgt := 91) dX12_readWeek_18 rfl (fun c => ?_) (fun c => ?_)
    · replace hF := (if_neg c).symm.trans hF
      refine V.aload_n 0 dX12_readWeek_91 rfl rfl ?_
      refine V.getR (v := 263) fl_X12_58 sh_251 rfl fx_251_25 (by decide) dX12_readWeek_92 ?_
      refine V.iconst (v := 4) dX12_readWeek_95 rfl ?_
      refine V.iload_n 1 dX12_readWeek_96 rfl rfl ?_
      obtain ⟨hk, hF⟩ := ck hF
      refine V.iast io_263 hk dX12_readWeek_97 ?_
      refine V.aload_n 0 dX12_readWeek_98 rfl rfl ?_
      obtain ⟨r73, h75, hc74, hF⟩ := bd_s hF
      refine V.callVi mf_X12_look ml_X12_135 sh_251 (s_X12_look hc74) (by decide) rfl rfl (Nat.le_of_ble_eq_true rfl) dX12_readWeek_99 ?_
      refine V.iconst (v := -1) dX12_readWeek_102 rfl ?_
      refine V.icmp_eq (tgt := 111) dX12_readWeek_103 rfl (fun c => ?_) (fun c => ?_)
      · replace hF := (if_pos c).symm.trans hF
        cases hF
        exact V.vret dX12_readWeek_111
      · replace hF := (if_neg c).symm.trans hF
        refine V.aload_n 0 dX12_readWeek_106 rfl rfl ?_
        obtain ⟨r76, h78, hc77, hF⟩ := bd_s hF
        refine V.callVi mf_X12_fails ml_X12_131 sh_251 (s_X12_fails hc77) (by decide) rfl rfl (Nat.le_of_ble_eq_true rfl) dX12_readWeek_107 ?_
        refine V.pop dX12_readWeek_110 rfl ?_
        cases hF
        exact V.vret dX12_readWeek_111
    · replace hF := (if_pos c).symm.trans hF
      refine V.aload_n 0 dX12_readWeek_21 rfl rfl ?_
      refine V.iconst (v := 3) dX12_readWeek_22 rfl ?_
      refine V.bipush (v := 64) dX12_readWeek_23 (by decide) ?_
      refine V.iload_n 1 dX12_readWeek_25 rfl rfl ?_
      refine V.iadd dX12_readWeek_26 ?_
      refine V.imul dX12_readWeek_27 ?_
      obtain ⟨r79, h81, hc80, hF⟩ := bd_s hF
      refine V.callVv mf_X12_readStep ml_X12_266 sh_251 (s_X12_readStep hc80) (by decide) rfl rfl (Nat.le_of_ble_eq_true rfl) dX12_readWeek_28 ?_
      refine V.aload_n 0 dX12_readWeek_31 rfl rfl ?_
      refine V.getI fl_X12_125 sh_251 rfl km_251 dX12_readWeek_32 ?_
      refine V.iconst (v := -1) dX12_readWeek_35 rfl ?_
      refine V.icmp_eq (tgt := 40) dX12_readWeek_36 rfl (fun c => ?_) (fun c => ?_)
      · replace hF := (if_pos c).symm.trans hF
        refine V.iinc (v := (x1 + (1))) 1 [(1, _), (0, _), (2, _)] dX12_readWeek_40 rfl rfl (by decide) rfl ?_
        refine V.aload_n 1 dX12_readWeek_43 rfl rfl ?_
        obtain ⟨r82, h84, hc83, hF⟩ := bd_s hF
        refine V.callVi mf_X12_look ml_X12_135 sh_251 (s_X12_look hc83) (by decide) rfl rfl (Nat.le_of_ble_eq_true rfl) dX12_readWeek_44 ?_
        refine V.bipush (v := 59) dX12_readWeek_47 (by decide) ?_
        refine V.icmp_ne (tgt := 56) dX12_readWeek_49 rfl (fun c => ?_) (fun c => ?_)
        · replace hF := (if_neg c).symm.trans hF
          refine V.iconst (v := 0) dX12_readWeek_56 rfl ?_
          exact V.sub [1, 0] rfl (v_X12_readWeek_57 ih hF)
        · replace hF := (if_pos c).symm.trans hF
          refine V.iconst (v := 1) dX12_readWeek_52 rfl ?_
          refine V.goto (tgt := 57) dX12_readWeek_53 rfl ?_
          exact V.sub [1, 0] rfl (v_X12_readWeek_57 ih hF)
      · replace hF := (if_neg c).symm.trans hF
        cases hF
        exact V.vret dX12_readWeek_39
def X12_readWeek (n : Nat) (h : Mm) : Option (Unit × Mm) := (bd (X12_starts 252 (0) (h.1 251 6) h) (fun _ h87 => (X12_readWeek_17 n n (0) true h87)))
set_option maxRecDepth 100000 in
set_option maxHeartbeats 4000000 in
theorem s_X12_readWeek {X : WX} {o : Mm} {n : Nat} {rv : Unit} {hz : Mm} {h : Mm} (hF : X12_readWeek n h = some (rv, hz)) : Sat X yX12_readWeek cX12_readWeek 3 (none) 7 [.ref (xa X 251)] false o h none hz := by
  unfold X12_readWeek at hF
  refine Sat.mk (own := RX12) rfl (by decide +kernel) (Nat.le_of_ble_eq_true rfl) (fun G => ?_)
  refine V.sub (lv2 := [(0, _)]) [0] rfl ?_
  refine V.aload_n 0 dX12_readWeek_0 rfl rfl ?_
  refine V.aload_n 0 dX12_readWeek_1 rfl rfl ?_
  refine V.getR (v := 252) fl_X12_9 sh_251 rfl fx_251_1 (by decide) dX12_readWeek_2 ?_
  refine V.iconst (v := 0) dX12_readWeek_5 rfl ?_
  refine V.aload_n 0 dX12_readWeek_6 rfl rfl ?_
  refine V.getI fl_X12_106 sh_251 rfl km_251 dX12_readWeek_7 ?_
  obtain ⟨r85, h87, hc86, hF⟩ := bd_s hF
  refine V.callVv mf_X12_starts ml_X12_204 sh_251 (s_X12_starts io_252 hc86) (by decide) rfl rfl (Nat.le_of_ble_eq_true rfl) dX12_readWeek_10 ?_
  refine V.iconst (v := 0) dX12_readWeek_13 rfl ?_
  refine V.istore_n [(1, _), (0, _)] dX12_readWeek_14 rfl (by decide) rfl ?_
  refine V.iconst (v := 1) dX12_readWeek_15 rfl ?_
  refine V.istore_n [(2, _), (1, _), (0, _)] dX12_readWeek_16 rfl (by decide) rfl ?_
  exact V.sub [2, 1, 0] rfl (v_X12_readWeek_17 n _ _ _ hF)
