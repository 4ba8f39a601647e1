/-! MonsterCotModel.lasts -/
theorem dX12_lasts_0 : decode cX12_lasts 0 = .ok (.aload_n 0, 1) := by decide +kernel
theorem dX12_lasts_1 : decode cX12_lasts 1 = .ok (.iconst 0, 1) := by decide +kernel
theorem dX12_lasts_2 : decode cX12_lasts 2 = .ok (.putfield 93, 3) := by decide +kernel
theorem dX12_lasts_5 : decode cX12_lasts 5 = .ok (.aload_n 0, 1) := by decide +kernel
theorem dX12_lasts_6 : decode cX12_lasts 6 = .ok (.iload_n 1, 1) := by decide +kernel
theorem dX12_lasts_7 : decode cX12_lasts 7 = .ok (.invokevirtual 319, 3) := by decide +kernel
theorem dX12_lasts_10 : decode cX12_lasts 10 = .ok (.ifCond .ne 5, 3) := by decide +kernel
theorem dX12_lasts_13 : decode cX12_lasts 13 = .ok (.iconst (-1), 1) := by decide +kernel
theorem dX12_lasts_14 : decode cX12_lasts 14 = .ok (.ireturn, 1) := by decide +kernel
theorem dX12_lasts_15 : decode cX12_lasts 15 = .ok (.aload_n 0, 1) := by decide +kernel
theorem dX12_lasts_16 : decode cX12_lasts 16 = .ok (.getfield 61, 3) := by decide +kernel
theorem dX12_lasts_19 : decode cX12_lasts 19 = .ok (.aload_n 0, 1) := by decide +kernel
theorem dX12_lasts_20 : decode cX12_lasts 20 = .ok (.getfield 64, 3) := by decide +kernel
theorem dX12_lasts_23 : decode cX12_lasts 23 = .ok (.invokestatic 401, 3) := by decide +kernel
theorem dX12_lasts_26 : decode cX12_lasts 26 = .ok (.aload_n 0, 1) := by decide +kernel
theorem dX12_lasts_27 : decode cX12_lasts 27 = .ok (.getfield 64, 3) := by decide +kernel
theorem dX12_lasts_30 : decode cX12_lasts 30 = .ok (.iconst 3, 1) := by decide +kernel
theorem dX12_lasts_31 : decode cX12_lasts 31 = .ok (.aload_n 0, 1) := by decide +kernel
theorem dX12_lasts_32 : decode cX12_lasts 32 = .ok (.getfield 64, 3) := by decide +kernel
theorem dX12_lasts_35 : decode cX12_lasts 35 = .ok (.bipush 23, 2) := by decide +kernel
theorem dX12_lasts_37 : decode cX12_lasts 37 = .ok (.iaload, 1) := by decide +kernel
theorem dX12_lasts_38 : decode cX12_lasts 38 = .ok (.imul, 1) := by decide +kernel
theorem dX12_lasts_39 : decode cX12_lasts 39 = .ok (.iconst 1, 1) := by decide +kernel
theorem dX12_lasts_40 : decode cX12_lasts 40 = .ok (.iadd, 1) := by decide +kernel
theorem dX12_lasts_41 : decode cX12_lasts 41 = .ok (.iaload, 1) := by decide +kernel
theorem dX12_lasts_42 : decode cX12_lasts 42 = .ok (.istore_n 2, 1) := by decide +kernel
theorem dX12_lasts_43 : decode cX12_lasts 43 = .ok (.bipush 18, 2) := by decide +kernel
theorem dX12_lasts_45 : decode cX12_lasts 45 = .ok (.aload_n 0, 1) := by decide +kernel
theorem dX12_lasts_46 : decode cX12_lasts 46 = .ok (.iload_n 1, 1) := by decide +kernel
theorem dX12_lasts_47 : decode cX12_lasts 47 = .ok (.invokevirtual 328, 3) := by decide +kernel
theorem dX12_lasts_50 : decode cX12_lasts 50 = .ok (.iadd, 1) := by decide +kernel
theorem dX12_lasts_51 : decode cX12_lasts 51 = .ok (.istore_n 3, 1) := by decide +kernel
theorem dX12_lasts_52 : decode cX12_lasts 52 = .ok (.iconst 0, 1) := by decide +kernel
theorem dX12_lasts_53 : decode cX12_lasts 53 = .ok (.istore 4, 2) := by decide +kernel
theorem dX12_lasts_55 : decode cX12_lasts 55 = .ok (.iload 4, 2) := by decide +kernel
theorem dX12_lasts_57 : decode cX12_lasts 57 = .ok (.bipush 20, 2) := by decide +kernel
theorem dX12_lasts_59 : decode cX12_lasts 59 = .ok (.if_icmp .ge 151, 3) := by decide +kernel
theorem dX12_lasts_62 : decode cX12_lasts 62 = .ok (.iconst 0, 1) := by decide +kernel
theorem dX12_lasts_63 : decode cX12_lasts 63 = .ok (.istore 5, 2) := by decide +kernel
theorem dX12_lasts_65 : decode cX12_lasts 65 = .ok (.iload 5, 2) := by decide +kernel
theorem dX12_lasts_67 : decode cX12_lasts 67 = .ok (.aload_n 0, 1) := by decide +kernel
theorem dX12_lasts_68 : decode cX12_lasts 68 = .ok (.iload_n 1, 1) := by decide +kernel
theorem dX12_lasts_69 : decode cX12_lasts 69 = .ok (.invokevirtual 322, 3) := by decide +kernel
theorem dX12_lasts_72 : decode cX12_lasts 72 = .ok (.if_icmp .ge 49, 3) := by decide +kernel
theorem dX12_lasts_75 : decode cX12_lasts 75 = .ok (.aload_n 0, 1) := by decide +kernel
theorem dX12_lasts_76 : decode cX12_lasts 76 = .ok (.getfield 64, 3) := by decide +kernel
theorem dX12_lasts_79 : decode cX12_lasts 79 = .ok (.bipush 22, 2) := by decide +kernel
theorem dX12_lasts_81 : decode cX12_lasts 81 = .ok (.aload_n 0, 1) := by decide +kernel
theorem dX12_lasts_82 : decode cX12_lasts 82 = .ok (.getfield 64, 3) := by decide +kernel
theorem dX12_lasts_85 : decode cX12_lasts 85 = .ok (.bipush 22, 2) := by decide +kernel
theorem dX12_lasts_87 : decode cX12_lasts 87 = .ok (.iaload, 1) := by decide +kernel
theorem dX12_lasts_88 : decode cX12_lasts 88 = .ok (.aload_n 0, 1) := by decide +kernel
theorem dX12_lasts_89 : decode cX12_lasts 89 = .ok (.iload_n 1, 1) := by decide +kernel
theorem dX12_lasts_90 : decode cX12_lasts 90 = .ok (.iload_n 2, 1) := by decide +kernel
theorem dX12_lasts_91 : decode cX12_lasts 91 = .ok (.aload_n 0, 1) := by decide +kernel
theorem dX12_lasts_92 : decode cX12_lasts 92 = .ok (.getfield 64, 3) := by decide +kernel
theorem dX12_lasts_95 : decode cX12_lasts 95 = .ok (.iload_n 3, 1) := by decide +kernel
theorem dX12_lasts_96 : decode cX12_lasts 96 = .ok (.iaload, 1) := by decide +kernel
theorem dX12_lasts_97 : decode cX12_lasts 97 = .ok (.iload 5, 2) := by decide +kernel
theorem dX12_lasts_99 : decode cX12_lasts 99 = .ok (.aload_n 0, 1) := by decide +kernel
theorem dX12_lasts_100 : decode cX12_lasts 100 = .ok (.getfield 64, 3) := by decide +kernel
theorem dX12_lasts_103 : decode cX12_lasts 103 = .ok (.bipush 29, 2) := by decide +kernel
theorem dX12_lasts_105 : decode cX12_lasts 105 = .ok (.iaload, 1) := by decide +kernel
theorem dX12_lasts_106 : decode cX12_lasts 106 = .ok (.iconst 0, 1) := by decide +kernel
theorem dX12_lasts_107 : decode cX12_lasts 107 = .ok (.invokevirtual 331, 3) := by decide +kernel
theorem dX12_lasts_110 : decode cX12_lasts 110 = .ok (.iadd, 1) := by decide +kernel
theorem dX12_lasts_111 : decode cX12_lasts 111 = .ok (.invokestatic 334, 3) := by decide +kernel
theorem dX12_lasts_114 : decode cX12_lasts 114 = .ok (.iastore, 1) := by decide +kernel
theorem dX12_lasts_115 : decode cX12_lasts 115 = .ok (.iinc 5 1, 3) := by decide +kernel
theorem dX12_lasts_118 : decode cX12_lasts 118 = .ok (.goto (-53), 3) := by decide +kernel
theorem dX12_lasts_121 : decode cX12_lasts 121 = .ok (.aload_n 0, 1) := by decide +kernel
theorem dX12_lasts_122 : decode cX12_lasts 122 = .ok (.aload_n 0, 1) := by decide +kernel
theorem dX12_lasts_123 : decode cX12_lasts 123 = .ok (.getfield 64, 3) := by decide +kernel
theorem dX12_lasts_126 : decode cX12_lasts 126 = .ok (.bipush 22, 2) := by decide +kernel
theorem dX12_lasts_128 : decode cX12_lasts 128 = .ok (.iaload, 1) := by decide +kernel
theorem dX12_lasts_129 : decode cX12_lasts 129 = .ok (.invokevirtual 340, 3) := by decide +kernel
theorem dX12_lasts_132 : decode cX12_lasts 132 = .ok (.ifCond .ne 6, 3) := by decide +kernel
theorem dX12_lasts_135 : decode cX12_lasts 135 = .ok (.iload 4, 2) := by decide +kernel
theorem dX12_lasts_137 : decode cX12_lasts 137 = .ok (.ireturn, 1) := by decide +kernel
theorem dX12_lasts_138 : decode cX12_lasts 138 = .ok (.aload_n 0, 1) := by decide +kernel
theorem dX12_lasts_139 : decode cX12_lasts 139 = .ok (.getfield 64, 3) := by decide +kernel
theorem dX12_lasts_142 : decode cX12_lasts 142 = .ok (.iload_n 3, 1) := by decide +kernel
theorem dX12_lasts_143 : decode cX12_lasts 143 = .ok (.bipush 9, 2) := by decide +kernel
theorem dX12_lasts_145 : decode cX12_lasts 145 = .ok (.aload_n 0, 1) := by decide +kernel
theorem dX12_lasts_146 : decode cX12_lasts 146 = .ok (.getfield 64, 3) := by decide +kernel
theorem dX12_lasts_149 : decode cX12_lasts 149 = .ok (.iload_n 3, 1) := by decide +kernel
theorem dX12_lasts_150 : decode cX12_lasts 150 = .ok (.iaload, 1) := by decide +kernel
theorem dX12_lasts_151 : decode cX12_lasts 151 = .ok (.iconst 1, 1) := by decide +kernel
theorem dX12_lasts_152 : decode cX12_lasts 152 = .ok (.iadd, 1) := by decide +kernel
theorem dX12_lasts_153 : decode cX12_lasts 153 = .ok (.invokestatic 315, 3) := by decide +kernel
theorem dX12_lasts_156 : decode cX12_lasts 156 = .ok (.iastore, 1) := by decide +kernel
theorem dX12_lasts_157 : decode cX12_lasts 157 = .ok (.aload_n 0, 1) := by decide +kernel
theorem dX12_lasts_158 : decode cX12_lasts 158 = .ok (.getfield 64, 3) := by decide +kernel
theorem dX12_lasts_161 : decode cX12_lasts 161 = .ok (.bipush 22, 2) := by decide +kernel
theorem dX12_lasts_163 : decode cX12_lasts 163 = .ok (.aload_n 0, 1) := by decide +kernel
theorem dX12_lasts_164 : decode cX12_lasts 164 = .ok (.aload_n 0, 1) := by decide +kernel
theorem dX12_lasts_165 : decode cX12_lasts 165 = .ok (.getfield 64, 3) := by decide +kernel
theorem dX12_lasts_168 : decode cX12_lasts 168 = .ok (.bipush 22, 2) := by decide +kernel
theorem dX12_lasts_170 : decode cX12_lasts 170 = .ok (.iaload, 1) := by decide +kernel
theorem dX12_lasts_171 : decode cX12_lasts 171 = .ok (.invokevirtual 343, 3) := by decide +kernel
theorem dX12_lasts_174 : decode cX12_lasts 174 = .ok (.iastore, 1) := by decide +kernel
theorem dX12_lasts_175 : decode cX12_lasts 175 = .ok (.aload_n 0, 1) := by decide +kernel
theorem dX12_lasts_176 : decode cX12_lasts 176 = .ok (.getfield 64, 3) := by decide +kernel
theorem dX12_lasts_179 : decode cX12_lasts 179 = .ok (.iload_n 3, 1) := by decide +kernel
theorem dX12_lasts_180 : decode cX12_lasts 180 = .ok (.iconst 0, 1) := by decide +kernel
theorem dX12_lasts_181 : decode cX12_lasts 181 = .ok (.aload_n 0, 1) := by decide +kernel
theorem dX12_lasts_182 : decode cX12_lasts 182 = .ok (.getfield 64, 3) := by decide +kernel
theorem dX12_lasts_185 : decode cX12_lasts 185 = .ok (.iload_n 3, 1) := by decide +kernel
theorem dX12_lasts_186 : decode cX12_lasts 186 = .ok (.iaload, 1) := by decide +kernel
theorem dX12_lasts_187 : decode cX12_lasts 187 = .ok (.iconst 1, 1) := by decide +kernel
theorem dX12_lasts_188 : decode cX12_lasts 188 = .ok (.isub, 1) := by decide +kernel
theorem dX12_lasts_189 : decode cX12_lasts 189 = .ok (.invokestatic 317, 3) := by decide +kernel
theorem dX12_lasts_192 : decode cX12_lasts 192 = .ok (.iastore, 1) := by decide +kernel
theorem dX12_lasts_193 : decode cX12_lasts 193 = .ok (.aload_n 0, 1) := by decide +kernel
theorem dX12_lasts_194 : decode cX12_lasts 194 = .ok (.getfield 64, 3) := by decide +kernel
theorem dX12_lasts_197 : decode cX12_lasts 197 = .ok (.bipush 29, 2) := by decide +kernel
theorem dX12_lasts_199 : decode cX12_lasts 199 = .ok (.dup2, 1) := by decide +kernel
theorem dX12_lasts_200 : decode cX12_lasts 200 = .ok (.iaload, 1) := by decide +kernel
theorem dX12_lasts_201 : decode cX12_lasts 201 = .ok (.iconst 1, 1) := by decide +kernel
theorem dX12_lasts_202 : decode cX12_lasts 202 = .ok (.iadd, 1) := by decide +kernel
theorem dX12_lasts_203 : decode cX12_lasts 203 = .ok (.iastore, 1) := by decide +kernel
theorem dX12_lasts_204 : decode cX12_lasts 204 = .ok (.iinc 4 1, 3) := by decide +kernel
theorem dX12_lasts_207 : decode cX12_lasts 207 = .ok (.goto (-152), 3) := by decide +kernel
theorem dX12_lasts_210 : decode cX12_lasts 210 = .ok (.bipush 20, 2) := by decide +kernel
theorem dX12_lasts_212 : decode cX12_lasts 212 = .ok (.ireturn, 1) := by decide +kernel
def X12_lasts_65 (n : Nat) (K55 : Int32 → Int32 → Int32 → Int32 → Mm → Option (Int32 × Mm)) : Nat → Int32 → Int32 → Int32 → Int32 → Int32 → Mm → Option (Int32 × Mm)
  | 0, _, _, _, _, _, _ => none
  | f + 1, x1, x2, x3, x4, x5, h => (bp (X12_pagesOf x1 h) (fun r74 => (if r74 ≤ x5 then (if inB (22) (aln 265) then (bp (X12_isEnough (h.1 265 (22).toNatClampNeg) h) (fun r76 => (if r76 = true then (if inB x3 (aln 265) then (bp (J9_min_7cf53 (9) ((h.1 265 x3.toNatClampNeg) + (1)) h) (fun r78 => (if inB x3 (aln 265) then (if inB (22) (aln 265) then (bp (X12_behind ((wI h 265 x3.toNatClampNeg r78).1 265 (22).toNatClampNeg) (wI h 265 x3.toNatClampNeg r78)) (fun r80 => (if inB (22) (aln 265) then (if inB x3 (aln 265) then (bp (J9_max_7cf53 (0) (((wI (wI h 265 x3.toNatClampNeg r78) 265 (22).toNatClampNeg r80).1 265 x3.toNatClampNeg) - (1)) (wI (wI h 265 x3.toNatClampNeg r78) 265 (22).toNatClampNeg r80)) (fun r82 => (if inB x3 (aln 265) then (if inB (29) (aln 265) then (if inB (29) (aln 265) then (K55 x1 x2 x3 (x4 + (1)) (wI (wI (wI (wI h 265 x3.toNatClampNeg r78) 265 (22).toNatClampNeg r80) 265 x3.toNatClampNeg r82) 265 (29).toNatClampNeg (((wI (wI (wI h 265 x3.toNatClampNeg r78) 265 (22).toNatClampNeg r80) 265 x3.toNatClampNeg r82).1 265 (29).toNatClampNeg) + (1)))) else none) else none) else none))) else none) else none))) else none) else none))) else none) else (some (x4, h))))) else none) else (if inB (22) (aln 265) then (if inB x3 (aln 265) then (if inB (29) (aln 265) then (bd (X12_page n x1 x2 (h.1 265 x3.toNatClampNeg) x5 (h.1 265 (29).toNatClampNeg) (0) h) (fun r84 h86 => (bp (X12_held ((h.1 265 (22).toNatClampNeg) + r84) h86) (fun r87 => (if inB (22) (aln 265) then ((X12_lasts_65 n K55 f) x1 x2 x3 x4 (x5 + (1)) (wI h86 265 (22).toNatClampNeg r87)) else none))))) else none) else none) else none))))
set_option maxRecDepth 100000 in
set_option maxHeartbeats 4000000 in
theorem v_X12_lasts_65 {X : WX} {G : GX} {o : Mm} {n : Nat} {K55 : Int32 → Int32 → Int32 → Int32 → Mm → Option (Int32 × Mm)} {rv : Int32} {hz : Mm} (hK55 : ∀ (x1 : Int32) (x2 : Int32) (x3 : Int32) (x4 : Int32) (h : Mm), K55 x1 x2 x3 x4 h = some (rv, hz) → V X G RX12 cX12_lasts 6 (some .int) 91 0 0 (QR X G false o (some (.int rv)) hz) false o 55 [(0, .ref (xa X 251)), (1, .int x1), (2, .int x2), (3, .int x3), (4, .int x4)] [] h) : ∀ (f : Nat) (x1 : Int32) (x2 : Int32) (x3 : Int32) (x4 : Int32) (x5 : Int32) (h : Mm), X12_lasts_65 n K55 f x1 x2 x3 x4 x5 h = some (rv, hz) → V X G RX12 cX12_lasts 6 (some .int) 91 0 0 (QR X G false o (some (.int rv)) hz) false o 65 [(0, .ref (xa X 251)), (1, .int x1), (2, .int x2), (3, .int x3), (4, .int x4), (5, .int x5)] [] h := by
  intro f
  induction f with
  | zero => intro x1 x2 x3 x4 x5 h hF; exact nomatch (show (none : Option (Int32 × Mm)) = some (rv, hz) from hF)
  | succ f ih =>
    intro x1 x2 x3 x4 x5 h hF
    unfold X12_lasts_65 at hF
    refine V.iload 5 dX12_lasts_65 rfl ?_
    refine V.aload_n 0 dX12_lasts_67 rfl rfl ?_
    refine V.iload_n 1 dX12_lasts_68 rfl rfl ?_
    obtain ⟨r74, hc75, hF⟩ := bp_s hF
    refine V.callVi mf_X12_pagesOf ml_X12_322 sh_251 (s_X12_pagesOf hc75) (by decide) rfl rfl (Nat.le_of_ble_eq_true rfl) dX12_lasts_69 ?_
    refine V.icmp_ge (tgt := 121) dX12_lasts_72 rfl (fun c => ?_) (fun c => ?_)
    · replace hF := (if_pos c).symm.trans hF
      refine V.aload_n 0 dX12_lasts_121 rfl rfl ?_
      refine V.aload_n 0 dX12_lasts_122 rfl rfl ?_
      refine V.getR (v := 265) fl_X12_64 sh_251 rfl fx_251_33 (by decide) dX12_lasts_123 ?_
      refine V.bipush (v := 22) dX12_lasts_126 (by decide) ?_
      obtain ⟨hk, hF⟩ := ck hF
      refine V.iald io_265 hk dX12_lasts_128 ?_
      obtain ⟨r76, hc77, hF⟩ := bp_s hF
      refine V.callVi mf_X12_isEnough ml_X12_340 sh_251 (s_X12_isEnough hc77) (by decide) rfl rfl (Nat.le_of_ble_eq_true rfl) dX12_lasts_129 ?_
      refine V.ifz_ne (tgt := 138) dX12_lasts_132 rfl (fun c => ?_) (fun c => ?_)
      · replace hF := (if_pos c).symm.trans hF
        refine V.aload_n 0 dX12_lasts_138 rfl rfl ?_
        refine V.getR (v := 265) fl_X12_64 sh_251 rfl fx_251_33 (by decide) dX12_lasts_139 ?_
        refine V.iload_n 3 dX12_lasts_142 rfl rfl ?_
        refine V.bipush (v := 9) dX12_lasts_143 (by decide) ?_
        refine V.aload_n 0 dX12_lasts_145 rfl rfl ?_
        refine V.getR (v := 265) fl_X12_64 sh_251 rfl fx_251_33 (by decide) dX12_lasts_146 ?_
        refine V.iload_n 3 dX12_lasts_149 rfl rfl ?_
        obtain ⟨hk, hF⟩ := ck hF
        refine V.iald io_265 hk dX12_lasts_150 ?_
        refine V.iconst (v := 1) dX12_lasts_151 rfl ?_
        refine V.iadd dX12_lasts_152 ?_
        obtain ⟨r78, hc79, hF⟩ := bp_s hF
        refine V.callSi mf_J9_min_7cf53 ml_X12_315 (s_J9_min_7cf53 hc79) (by decide) rfl rfl (Nat.le_of_ble_eq_true rfl) dX12_lasts_153 ?_
        obtain ⟨hk, hF⟩ := ck hF
        refine V.iast io_265 hk dX12_lasts_156 ?_
        refine V.aload_n 0 dX12_lasts_157 rfl rfl ?_
        refine V.getR (v := 265) fl_X12_64 sh_251 rfl fx_251_33 (by decide) dX12_lasts_158 ?_
        refine V.bipush (v := 22) dX12_lasts_161 (by decide) ?_
        refine V.aload_n 0 dX12_lasts_163 rfl rfl ?_
        refine V.aload_n 0 dX12_lasts_164 rfl rfl ?_
        refine V.getR (v := 265) fl_X12_64 sh_251 rfl fx_251_33 (by decide) dX12_lasts_165 ?_
        refine V.bipush (v := 22) dX12_lasts_168 (by decide) ?_
        obtain ⟨hk, hF⟩ := ck hF
        refine V.iald io_265 hk dX12_lasts_170 ?_
        obtain ⟨r80, hc81, hF⟩ := bp_s hF
        refine V.callVi mf_X12_behind ml_X12_343 sh_251 (s_X12_behind hc81) (by decide) rfl rfl (Nat.le_of_ble_eq_true rfl) dX12_lasts_171 ?_
        obtain ⟨hk, hF⟩ := ck hF
        refine V.iast io_265 hk dX12_lasts_174 ?_
        refine V.aload_n 0 dX12_lasts_175 rfl rfl ?_
        refine V.getR (v := 265) fl_X12_64 sh_251 rfl fx_251_33 (by decide) dX12_lasts_176 ?_
        refine V.iload_n 3 dX12_lasts_179 rfl rfl ?_
        refine V.iconst (v := 0) dX12_lasts_180 rfl ?_
        refine V.aload_n 0 dX12_lasts_181 rfl rfl ?_
        refine V.getR (v := 265) fl_X12_64 sh_251 rfl fx_251_33 (by decide) dX12_lasts_182 ?_
        refine V.iload_n 3 dX12_lasts_185 rfl rfl ?_
        obtain ⟨hk, hF⟩ := ck hF
        refine V.iald io_265 hk dX12_lasts_186 ?_
        refine V.iconst (v := 1) dX12_lasts_187 rfl ?_
        refine V.isub dX12_lasts_188 ?_
        obtain ⟨r82, hc83, hF⟩ := bp_s hF
        refine V.callSi mf_J9_max_7cf53 ml_X12_317 (s_J9_max_7cf53 hc83) (by decide) rfl rfl (Nat.le_of_ble_eq_true rfl) dX12_lasts_189 ?_
        obtain ⟨hk, hF⟩ := ck hF
        refine V.iast io_265 hk dX12_lasts_192 ?_
        refine V.aload_n 0 dX12_lasts_193 rfl rfl ?_
        refine V.getR (v := 265) fl_X12_64 sh_251 rfl fx_251_33 (by decide) dX12_lasts_194 ?_
        refine V.bipush (v := 29) dX12_lasts_197 (by decide) ?_
        refine V.dup2 dX12_lasts_199 rfl rfl ?_
        obtain ⟨hk, hF⟩ := ck hF
        refine V.iald io_265 hk dX12_lasts_200 ?_
        refine V.iconst (v := 1) dX12_lasts_201 rfl ?_
        refine V.iadd dX12_lasts_202 ?_
        obtain ⟨hk, hF⟩ := ck hF
        refine V.iast io_265 hk dX12_lasts_203 ?_
        refine V.iinc (v := (x4 + (1))) 4 [(4, _), (0, _), (1, _), (2, _), (3, _), (5, _)] dX12_lasts_204 rfl rfl (by decide) rfl ?_
        refine V.goto (tgt := 55) dX12_lasts_207 rfl ?_
        exact V.sub [1, 2, 3, 4, 0] rfl (hK55 _ _ _ _ _ hF)
      · replace hF := (if_neg c).symm.trans hF
        refine V.iload 4 dX12_lasts_135 rfl ?_
        cases hF
        exact V.iret dX12_lasts_137
    · replace hF := (if_neg c).symm.trans hF
      refine V.aload_n 0 dX12_lasts_75 rfl rfl ?_
      refine V.getR (v := 265) fl_X12_64 sh_251 rfl fx_251_33 (by decide) dX12_lasts_76 ?_
      refine V.bipush (v := 22) dX12_lasts_79 (by decide) ?_
      refine V.aload_n 0 dX12_lasts_81 rfl rfl ?_
      refine V.getR (v := 265) fl_X12_64 sh_251 rfl fx_251_33 (by decide) dX12_lasts_82 ?_
      refine V.bipush (v := 22) dX12_lasts_85 (by decide) ?_
      obtain ⟨hk, hF⟩ := ck hF
      refine V.iald io_265 hk dX12_lasts_87 ?_
      refine V.aload_n 0 dX12_lasts_88 rfl rfl ?_
      refine V.iload_n 1 dX12_lasts_89 rfl rfl ?_
      refine V.iload_n 2 dX12_lasts_90 rfl rfl ?_
      refine V.aload_n 0 dX12_lasts_91 rfl rfl ?_
      refine V.getR (v := 265) fl_X12_64 sh_251 rfl fx_251_33 (by decide) dX12_lasts_92 ?_
      refine V.iload_n 3 dX12_lasts_95 rfl rfl ?_
      obtain ⟨hk, hF⟩ := ck hF
      refine V.iald io_265 hk dX12_lasts_96 ?_
      refine V.iload 5 dX12_lasts_97 rfl ?_
      refine V.aload_n 0 dX12_lasts_99 rfl rfl ?_
      refine V.getR (v := 265) fl_X12_64 sh_251 rfl fx_251_33 (by decide) dX12_lasts_100 ?_
      refine V.bipush (v := 29) dX12_lasts_103 (by decide) ?_
      obtain ⟨hk, hF⟩ := ck hF
      refine V.iald io_265 hk dX12_lasts_105 ?_
      refine V.iconst (v := 0) dX12_lasts_106 rfl ?_
      obtain ⟨r84, h86, hc85, hF⟩ := bd_s hF
      refine V.callVi mf_X12_page ml_X12_331 sh_251 (s_X12_page hc85) (by decide) rfl rfl (Nat.le_of_ble_eq_true rfl) dX12_lasts_107 ?_
      refine V.iadd dX12_lasts_110 ?_
      obtain ⟨r87, hc88, hF⟩ := bp_s hF
      refine V.callSi mf_X12_held ml_X12_334 (s_X12_held hc88) (by decide) rfl rfl (Nat.le_of_ble_eq_true rfl) dX12_lasts_111 ?_
      obtain ⟨hk, hF⟩ := ck hF
      refine V.iast io_265 hk dX12_lasts_114 ?_
      refine V.iinc (v := (x5 + (1))) 5 [(5, _), (0, _), (1, _), (2, _), (3, _), (4, _)] dX12_lasts_115 rfl rfl (by decide) rfl ?_
      refine V.goto (tgt := 65) dX12_lasts_118 rfl ?_
      exact V.sub [1, 2, 3, 4, 5, 0] rfl (ih _ _ _ _ _ _ hF)
def X12_lasts_55 (n : Nat) : Nat → Int32 → Int32 → Int32 → Int32 → Mm → Option (Int32 × Mm)
  | 0, _, _, _, _, _ => none
  | f + 1, x1, x2, x3, x4, h => (if (20) ≤ x4 then (some ((20), h)) else (X12_lasts_65 n (X12_lasts_55 n f) n x1 x2 x3 x4 (0) h))
set_option maxRecDepth 100000 in
set_option maxHeartbeats 4000000 in
theorem v_X12_lasts_55 {X : WX} {G : GX} {o : Mm} {n : Nat} {rv : Int32} {hz : Mm} : ∀ (f : Nat) (x1 : Int32) (x2 : Int32) (x3 : Int32) (x4 : Int32) (h : Mm), X12_lasts_55 n f x1 x2 x3 x4 h = some (rv, hz) → V X G RX12 cX12_lasts 6 (some .int) 91 0 0 (QR X G false o (some (.int rv)) hz) false o 55 [(0, .ref (xa X 251)), (1, .int x1), (2, .int x2), (3, .int x3), (4, .int x4)] [] h := by
  intro f
  induction f with
  | zero => intro x1 x2 x3 x4 h hF; exact nomatch (show (none : Option (Int32 × Mm)) = some (rv, hz) from hF)
  | succ f ih =>
    intro x1 x2 x3 x4 h hF
    unfold X12_lasts_55 at hF
    refine V.iload 4 dX12_lasts_55 rfl ?_
    refine V.bipush (v := 20) dX12_lasts_57 (by decide) ?_
    refine V.icmp_ge (tgt := 210) dX12_lasts_59 rfl (fun c => ?_) (fun c => ?_)
    · replace hF := (if_pos c).symm.trans hF
      refine V.bipush (v := 20) dX12_lasts_210 (by decide) ?_
      cases hF
      exact V.iret dX12_lasts_212
    · replace hF := (if_neg c).symm.trans hF
      refine V.iconst (v := 0) dX12_lasts_62 rfl ?_
      refine V.istore [(5, _), (0, _), (1, _), (2, _), (3, _), (4, _)] dX12_lasts_63 (by decide) rfl ?_
      exact V.sub [1, 2, 3, 4, 5, 0] rfl (v_X12_lasts_65 ih n _ _ _ _ _ _ hF)
def X12_lasts (n : Nat) (x1 : Int32) (h : Mm) : Option (Int32 × Mm) := (bp (X12_isBook x1 (wI h 251 0 (0))) (fun r89 => (if r89 = true then (bd (X12_copy n 264 265 (wI h 251 0 (0))) (fun _ h93 => (if inB (23) (aln 265) then (if inB (((3) * (h93.1 265 (23).toNatClampNeg)) + (1)) (aln 265) then (bp (X12_kindOf x1 h93) (fun r94 => (X12_lasts_55 n n x1 (h93.1 265 (((3) * (h93.1 265 (23).toNatClampNeg)) + (1)).toNatClampNeg) ((18) + r94) (0) h93))) else none) else none))) else (some ((-1), (wI h 251 0 (0)))))))
set_option maxRecDepth 100000 in
set_option maxHeartbeats 4000000 in
theorem s_X12_lasts {X : WX} {o : Mm} {n : Nat} {x1 : Int32} {rv : Int32} {hz : Mm} {h : Mm} (hF : X12_lasts n x1 h = some (rv, hz)) : Sat X yX12_lasts cX12_lasts 6 (some .int) 91 [.ref (xa X 251), .int x1] false o h (some (.int rv)) hz := by
  unfold X12_lasts at hF
  refine Sat.mk (own := RX12) rfl (by decide +kernel) (Nat.le_of_ble_eq_true rfl) (fun G => ?_)
  refine V.sub (lv2 := [(0, _), (1, _)]) [0, 1] rfl ?_
  refine V.aload_n 0 dX12_lasts_0 rfl rfl ?_
  refine V.iconst (v := 0) dX12_lasts_1 rfl ?_
  refine V.putI fl_X12_93 rfl (tyX12_ok 0 (by decide)) rfl rfl sh_251 rfl km_251 dX12_lasts_2 ?_
  refine V.aload_n 0 dX12_lasts_5 rfl rfl ?_
  refine V.iload_n 1 dX12_lasts_6 rfl rfl ?_
  obtain ⟨r89, hc90, hF⟩ := bp_s hF
  refine V.callVi mf_X12_isBook ml_X12_319 sh_251 (s_X12_isBook hc90) (by decide) rfl rfl (Nat.le_of_ble_eq_true rfl) dX12_lasts_7 ?_
  refine V.ifz_ne (tgt := 15) dX12_lasts_10 rfl (fun c => ?_) (fun c => ?_)
  · replace hF := (if_pos c).symm.trans hF
    refine V.aload_n 0 dX12_lasts_15 rfl rfl ?_
    refine V.getR (v := 264) fl_X12_61 sh_251 rfl fx_251_32 (by decide) dX12_lasts_16 ?_
    refine V.aload_n 0 dX12_lasts_19 rfl rfl ?_
    refine V.getR (v := 265) fl_X12_64 sh_251 rfl fx_251_33 (by decide) dX12_lasts_20 ?_
    obtain ⟨r91, h93, hc92, hF⟩ := bd_s hF
    refine V.callSv mf_X12_copy ml_X12_401 (s_X12_copy io_264 io_265 hc92) (by decide) rfl rfl (Nat.le_of_ble_eq_true rfl) dX12_lasts_23 ?_
    refine V.aload_n 0 dX12_lasts_26 rfl rfl ?_
    refine V.getR (v := 265) fl_X12_64 sh_251 rfl fx_251_33 (by decide) dX12_lasts_27 ?_
    refine V.iconst (v := 3) dX12_lasts_30 rfl ?_
    refine V.aload_n 0 dX12_lasts_31 rfl rfl ?_
    refine V.getR (v := 265) fl_X12_64 sh_251 rfl fx_251_33 (by decide) dX12_lasts_32 ?_
    refine V.bipush (v := 23) dX12_lasts_35 (by decide) ?_
    obtain ⟨hk, hF⟩ := ck hF
    refine V.iald io_265 hk dX12_lasts_37 ?_
    refine V.imul dX12_lasts_38 ?_
    refine V.iconst (v := 1) dX12_lasts_39 rfl ?_
    refine V.iadd dX12_lasts_40 ?_
    obtain ⟨hk, hF⟩ := ck hF
    refine V.iald io_265 hk dX12_lasts_41 ?_
    refine V.istore_n [(2, _), (0, _), (1, _)] dX12_lasts_42 rfl (by decide) rfl ?_
    refine V.bipush (v := 18) dX12_lasts_43 (by decide) ?_
    refine V.aload_n 1 dX12_lasts_45 rfl rfl ?_
    refine V.iload_n 2 dX12_lasts_46 rfl rfl ?_
    obtain ⟨r94, hc95, hF⟩ := bp_s hF
    refine V.callVi mf_X12_kindOf ml_X12_328 sh_251 (s_X12_kindOf hc95) (by decide) rfl rfl (Nat.le_of_ble_eq_true rfl) dX12_lasts_47 ?_
    refine V.iadd dX12_lasts_50 ?_
    refine V.istore_n [(3, _), (2, _), (0, _), (1, _)] dX12_lasts_51 rfl (by decide) rfl ?_
    refine V.iconst (v := 0) dX12_lasts_52 rfl ?_
    refine V.istore [(4, _), (3, _), (2, _), (0, _), (1, _)] dX12_lasts_53 (by decide) rfl ?_
    exact V.sub [3, 4, 2, 1, 0] rfl (v_X12_lasts_55 n _ _ _ _ _ hF)
  · replace hF := (if_neg c).symm.trans hF
    refine V.iconst (v := -1) dX12_lasts_13 rfl ?_
    cases hF
    exact V.iret dX12_lasts_14
/-! MonsterCotModel.quiet -/
theorem dX12_quiet_0 : decode cX12_quiet 0 = .ok (.aload_n 0, 1) := by decide +kernel
theorem dX12_quiet_1 : decode cX12_quiet 1 = .ok (.iconst 0, 1) := by decide +kernel
theorem dX12_quiet_2 : decode cX12_quiet 2 = .ok (.putfield 93, 3) := by decide +kernel
theorem dX12_quiet_5 : decode cX12_quiet 5 = .ok (.aload_n 0, 1) := by decide +kernel
theorem dX12_quiet_6 : decode cX12_quiet 6 = .ok (.getfield 291, 3) := by decide +kernel
theorem dX12_quiet_9 : decode cX12_quiet 9 = .ok (.ifCond .ne 5, 3) := by decide +kernel
theorem dX12_quiet_12 : decode cX12_quiet 12 = .ok (.iconst (-1), 1) := by decide +kernel
theorem dX12_quiet_13 : decode cX12_quiet 13 = .ok (.ireturn, 1) := by decide +kernel
theorem dX12_quiet_14 : decode cX12_quiet 14 = .ok (.aload_n 0, 1) := by decide +kernel
theorem dX12_quiet_15 : decode cX12_quiet 15 = .ok (.getfield 61, 3) := by decide +kernel
theorem dX12_quiet_18 : decode cX12_quiet 18 = .ok (.bipush 22, 2) := by decide +kernel
theorem dX12_quiet_20 : decode cX12_quiet 20 = .ok (.iaload, 1) := by decide +kernel
theorem dX12_quiet_21 : decode cX12_quiet 21 = .ok (.istore_n 1, 1) := by decide +kernel
theorem dX12_quiet_22 : decode cX12_quiet 22 = .ok (.iconst 0, 1) := by decide +kernel
theorem dX12_quiet_23 : decode cX12_quiet 23 = .ok (.istore_n 2, 1) := by decide +kernel
theorem dX12_quiet_24 : decode cX12_quiet 24 = .ok (.iload_n 2, 1) := by decide +kernel
theorem dX12_quiet_25 : decode cX12_quiet 25 = .ok (.bipush 60, 2) := by decide +kernel
theorem dX12_quiet_27 : decode cX12_quiet 27 = .ok (.if_icmp .gt 21, 3) := by decide +kernel
theorem dX12_quiet_30 : decode cX12_quiet 30 = .ok (.iload_n 1, 1) := by decide +kernel
theorem dX12_quiet_31 : decode cX12_quiet 31 = .ok (.ifCond .ne 5, 3) := by decide +kernel
theorem dX12_quiet_34 : decode cX12_quiet 34 = .ok (.iload_n 2, 1) := by decide +kernel
theorem dX12_quiet_35 : decode cX12_quiet 35 = .ok (.ireturn, 1) := by decide +kernel
theorem dX12_quiet_36 : decode cX12_quiet 36 = .ok (.aload_n 0, 1) := by decide +kernel
theorem dX12_quiet_37 : decode cX12_quiet 37 = .ok (.iload_n 1, 1) := by decide +kernel
theorem dX12_quiet_38 : decode cX12_quiet 38 = .ok (.invokevirtual 343, 3) := by decide +kernel
theorem dX12_quiet_41 : decode cX12_quiet 41 = .ok (.istore_n 1, 1) := by decide +kernel
theorem dX12_quiet_42 : decode cX12_quiet 42 = .ok (.iinc 2 1, 3) := by decide +kernel
theorem dX12_quiet_45 : decode cX12_quiet 45 = .ok (.goto (-21), 3) := by decide +kernel
theorem dX12_quiet_48 : decode cX12_quiet 48 = .ok (.iconst (-1), 1) := by decide +kernel
theorem dX12_quiet_49 : decode cX12_quiet 49 = .ok (.ireturn, 1) := by decide +kernel
def X12_quiet_24 (n : Nat) : Nat → Int32 → Int32 → Mm → Option (Int32 × Mm)
  | 0, _, _, _ => none
  | f + 1, x1, x2, h => (if (60) < x2 then (some ((-1), h)) else (if x1 = 0 then (some (x2, h)) else (bp (X12_behind x1 h) (fun r5 => ((X12_quiet_24 n f) r5 (x2 + (1)) h)))))
set_option maxRecDepth 100000 in
set_option maxHeartbeats 4000000 in
theorem v_X12_quiet_24 {X : WX} {G : GX} {o : Mm} {n : Nat} {rv : Int32} {hz : Mm} : ∀ (f : Nat) (x1 : Int32) (x2 : Int32) (h : Mm), X12_quiet_24 n f x1 x2 h = some (rv, hz) → V X G RX12 cX12_quiet 3 (some .int) 3 0 0 (QR X G false o (some (.int rv)) hz) false o 24 [(0, .ref (xa X 251)), (1, .int x1), (2, .int x2)] [] h := by
  intro f
  induction f with
  | zero => intro x1 x2 h hF; exact nomatch (show (none : Option (Int32 × Mm)) = some (rv, hz) from hF)
  | succ f ih =>
    intro x1 x2 h hF
    unfold X12_quiet_24 at hF
    refine V.iload_n 2 dX12_quiet_24 rfl rfl ?_
    refine V.bipush (v := 60) dX12_quiet_25 (by decide) ?_
    refine V.icmp_gt (tgt := 48) dX12_quiet_27 rfl (fun c => ?_) (fun c => ?_)
    · replace hF := (if_pos c).symm.trans hF
      refine V.iconst (v := -1) dX12_quiet_48 rfl ?_
      cases hF
      exact V.iret dX12_quiet_49
    · replace hF := (if_neg c).symm.trans hF
      refine V.iload_n 1 dX12_quiet_30 rfl rfl ?_
      refine V.if_ne (tgt := 36) dX12_quiet_31 rfl (fun c => ?_) (fun c => ?_)
      · replace hF := (if_neg c).symm.trans hF
        refine V.aload_n 0 dX12_quiet_36 rfl rfl ?_
        refine V.iload_n 1 dX12_quiet_37 rfl rfl ?_
        obtain ⟨r5, hc6, hF⟩ := bp_s hF
        refine V.callVi mf_X12_behind ml_X12_343 sh_251 (s_X12_behind hc6) (by decide) rfl rfl (Nat.le_of_ble_eq_true rfl) dX12_quiet_38 ?_
        refine V.istore_n [(1, _), (0, _), (2, _)] dX12_quiet_41 rfl (by decide) rfl ?_
        refine V.iinc (v := (x2 + (1))) 2 [(2, _), (1, _), (0, _)] dX12_quiet_42 rfl rfl (by decide) rfl ?_
        refine V.goto (tgt := 24) dX12_quiet_45 rfl ?_
        exact V.sub [2, 1, 0] rfl (ih _ _ _ hF)
      · replace hF := (if_pos c).symm.trans hF
        refine V.iload_n 2 dX12_quiet_34 rfl rfl ?_
        cases hF
        exact V.iret dX12_quiet_35
def X12_quiet (n : Nat) (h : Mm) : Option (Int32 × Mm) := (if ((wI h 251 0 (0)).1 251 27) = 0 then (some ((-1), (wI h 251 0 (0)))) else (if inB (22) (aln 264) then (X12_quiet_24 n n ((wI h 251 0 (0)).1 264 (22).toNatClampNeg) (0) (wI h 251 0 (0))) else none))
set_option maxRecDepth 100000 in
set_option maxHeartbeats 4000000 in
theorem s_X12_quiet {X : WX} {o : Mm} {n : Nat} {rv : Int32} {hz : Mm} {h : Mm} (hF : X12_quiet n h = some (rv, hz)) : Sat X yX12_quiet cX12_quiet 3 (some .int) 3 [.ref (xa X 251)] false o h (some (.int rv)) hz := by
  unfold X12_quiet at hF
  refine Sat.mk (own := RX12) rfl (by decide +kernel) (Nat.le_of_ble_eq_true rfl) (fun G => ?_)
  refine V.sub (lv2 := [(0, _)]) [0] rfl ?_
  refine V.aload_n 0 dX12_quiet_0 rfl rfl ?_
  refine V.iconst (v := 0) dX12_quiet_1 rfl ?_
  refine V.putI fl_X12_93 rfl (tyX12_ok 0 (by decide)) rfl rfl sh_251 rfl km_251 dX12_quiet_2 ?_
  refine V.aload_n 0 dX12_quiet_5 rfl rfl ?_
  refine V.getI fl_X12_291 sh_251 rfl km_251 dX12_quiet_6 ?_
  refine V.if_ne (tgt := 14) dX12_quiet_9 rfl (fun c => ?_) (fun c => ?_)
  · replace hF := (if_neg c).symm.trans hF
    refine V.aload_n 0 dX12_quiet_14 rfl rfl ?_
    refine V.getR (v := 264) fl_X12_61 sh_251 rfl fx_251_32 (by decide) dX12_quiet_15 ?_
    refine V.bipush (v := 22) dX12_quiet_18 (by decide) ?_
    obtain ⟨hk, hF⟩ := ck hF
    refine V.iald io_264 hk dX12_quiet_20 ?_
    refine V.istore_n [(1, _), (0, _)] dX12_quiet_21 rfl (by decide) rfl ?_
    refine V.iconst (v := 0) dX12_quiet_22 rfl ?_
    refine V.istore_n [(2, _), (1, _), (0, _)] dX12_quiet_23 rfl (by decide) rfl ?_
    exact V.sub [2, 1, 0] rfl (v_X12_quiet_24 n _ _ _ hF)
  · replace hF := (if_pos c).symm.trans hF
    refine V.iconst (v := -1) dX12_quiet_12 rfl ?_
    cases hF
    exact V.iret dX12_quiet_13
/-! MonsterCotModel.valueOf -/
theorem dX12_valueOf_0 : decode cX12_valueOf 0 = .ok (.iload_n 1, 1) := by decide +kernel
theorem dX12_valueOf_1 : decode cX12_valueOf 1 = .ok (.tableswitch 71 0 3 #[31, 71, 43, 60], 31) := by decide +kernel
theorem dX12_valueOf_32 : decode cX12_valueOf 32 = .ok (.aload_n 0, 1) := by decide +kernel
theorem dX12_valueOf_33 : decode cX12_valueOf 33 = .ok (.getfield 61, 3) := by decide +kernel
theorem dX12_valueOf_36 : decode cX12_valueOf 36 = .ok (.iconst 3, 1) := by decide +kernel
theorem dX12_valueOf_37 : decode cX12_valueOf 37 = .ok (.iload_n 2, 1) := by decide +kernel
theorem dX12_valueOf_38 : decode cX12_valueOf 38 = .ok (.imul, 1) := by decide +kernel
theorem dX12_valueOf_39 : decode cX12_valueOf 39 = .ok (.iconst 2, 1) := by decide +kernel
theorem dX12_valueOf_40 : decode cX12_valueOf 40 = .ok (.iadd, 1) := by decide +kernel
theorem dX12_valueOf_41 : decode cX12_valueOf 41 = .ok (.iaload, 1) := by decide +kernel
theorem dX12_valueOf_42 : decode cX12_valueOf 42 = .ok (.ineg, 1) := by decide +kernel
theorem dX12_valueOf_43 : decode cX12_valueOf 43 = .ok (.ireturn, 1) := by decide +kernel
theorem dX12_valueOf_44 : decode cX12_valueOf 44 = .ok (.aload_n 0, 1) := by decide +kernel
theorem dX12_valueOf_45 : decode cX12_valueOf 45 = .ok (.iload_n 2, 1) := by decide +kernel
theorem dX12_valueOf_46 : decode cX12_valueOf 46 = .ok (.invokevirtual 325, 3) := by decide +kernel
theorem dX12_valueOf_49 : decode cX12_valueOf 49 = .ok (.aload_n 0, 1) := by decide +kernel
theorem dX12_valueOf_50 : decode cX12_valueOf 50 = .ok (.getfield 61, 3) := by decide +kernel
theorem dX12_valueOf_53 : decode cX12_valueOf 53 = .ok (.iconst 3, 1) := by decide +kernel
theorem dX12_valueOf_54 : decode cX12_valueOf 54 = .ok (.iload_n 2, 1) := by decide +kernel
theorem dX12_valueOf_55 : decode cX12_valueOf 55 = .ok (.imul, 1) := by decide +kernel
theorem dX12_valueOf_56 : decode cX12_valueOf 56 = .ok (.iconst 0, 1) := by decide +kernel
theorem dX12_valueOf_57 : decode cX12_valueOf 57 = .ok (.iadd, 1) := by decide +kernel
theorem dX12_valueOf_58 : decode cX12_valueOf 58 = .ok (.iaload, 1) := by decide +kernel
theorem dX12_valueOf_59 : decode cX12_valueOf 59 = .ok (.isub, 1) := by decide +kernel
theorem dX12_valueOf_60 : decode cX12_valueOf 60 = .ok (.ireturn, 1) := by decide +kernel
theorem dX12_valueOf_61 : decode cX12_valueOf 61 = .ok (.aload_n 0, 1) := by decide +kernel
theorem dX12_valueOf_62 : decode cX12_valueOf 62 = .ok (.getfield 61, 3) := by decide +kernel
theorem dX12_valueOf_65 : decode cX12_valueOf 65 = .ok (.iconst 3, 1) := by decide +kernel
theorem dX12_valueOf_66 : decode cX12_valueOf 66 = .ok (.iload_n 2, 1) := by decide +kernel
theorem dX12_valueOf_67 : decode cX12_valueOf 67 = .ok (.imul, 1) := by decide +kernel
theorem dX12_valueOf_68 : decode cX12_valueOf 68 = .ok (.iconst 1, 1) := by decide +kernel
theorem dX12_valueOf_69 : decode cX12_valueOf 69 = .ok (.iadd, 1) := by decide +kernel
theorem dX12_valueOf_70 : decode cX12_valueOf 70 = .ok (.iaload, 1) := by decide +kernel
theorem dX12_valueOf_71 : decode cX12_valueOf 71 = .ok (.ireturn, 1) := by decide +kernel
theorem dX12_valueOf_72 : decode cX12_valueOf 72 = .ok (.aload_n 0, 1) := by decide +kernel
theorem dX12_valueOf_73 : decode cX12_valueOf 73 = .ok (.getfield 49, 3) := by decide +kernel
theorem dX12_valueOf_76 : decode cX12_valueOf 76 = .ok (.iconst 3, 1) := by decide +kernel
theorem dX12_valueOf_77 : decode cX12_valueOf 77 = .ok (.iload_n 2, 1) := by decide +kernel
theorem dX12_valueOf_78 : decode cX12_valueOf 78 = .ok (.imul, 1) := by decide +kernel
theorem dX12_valueOf_79 : decode cX12_valueOf 79 = .ok (.iaload, 1) := by decide +kernel
theorem dX12_valueOf_80 : decode cX12_valueOf 80 = .ok (.ireturn, 1) := by decide +kernel
def X12_valueOf_72 (x2 : Int32) (h : Mm) : Option Int32 := (if inB ((3) * x2) (aln 260) then (some (h.1 260 ((3) * x2).toNatClampNeg)) else none)
set_option maxRecDepth 100000 in
set_option maxHeartbeats 4000000 in
theorem v_X12_valueOf_72 {X : WX} {G : GX} {o : Mm} {rv : Int32} {h : Mm} {x2 : Int32} (hF : X12_valueOf_72  x2 h = some rv) : V X G RX12 cX12_valueOf 3 (some .int) 2 0 0 (QR X G false o (some (.int rv)) h) false o 72 [(0, .ref (xa X 251)), (2, .int x2)] [] h := by
  unfold X12_valueOf_72 at hF
  refine V.aload_n 0 dX12_valueOf_72 rfl rfl ?_
  refine V.getR (v := 260) fl_X12_49 sh_251 rfl fx_251_22 (by decide) dX12_valueOf_73 ?_
  refine V.iconst (v := 3) dX12_valueOf_76 rfl ?_
  refine V.iload_n 1 dX12_valueOf_77 rfl rfl ?_
  refine V.imul dX12_valueOf_78 ?_
  obtain ⟨hk, hF⟩ := ck hF
  refine V.iald io_260 hk dX12_valueOf_79 ?_
  cases hF
  exact V.iret dX12_valueOf_80
def X12_valueOf (x1 : Int32) (x2 : Int32) (h : Mm) : Option Int32 := (if x1 = 0 then (if inB (((3) * x2) + (2)) (aln 264) then (some (-(h.1 264 (((3) * x2) + (2)).toNatClampNeg))) else none) else (if x1 = 1 then (X12_valueOf_72 x2 h) else (if x1 = 2 then (bp (X12_strength x2 h) (fun r5 => (if inB (((3) * x2) + (0)) (aln 264) then (some (r5 - (h.1 264 (((3) * x2) + (0)).toNatClampNeg))) else none))) else (if x1 = 3 then (if inB (((3) * x2) + (1)) (aln 264) then (some (h.1 264 (((3) * x2) + (1)).toNatClampNeg)) else none) else (X12_valueOf_72 x2 h)))))
set_option maxRecDepth 100000 in
set_option maxHeartbeats 4000000 in
theorem s_X12_valueOf {X : WX} {o : Mm} {x1 : Int32} {x2 : Int32} {rv : Int32} {h : Mm} (hF : X12_valueOf x1 x2 h = some rv) : Sat X yX12_valueOf cX12_valueOf 3 (some .int) 2 [.ref (xa X 251), .int x1, .int x2] false o h (some (.int rv)) h := by
  unfold X12_valueOf at hF
  refine Sat.mk (own := RX12) rfl (by decide +kernel) (Nat.le_of_ble_eq_true rfl) (fun G => ?_)
  refine V.sub (lv2 := [(0, _), (1, _), (2, _)]) [0, 1, 2] rfl ?_
  refine V.iload_n 1 dX12_valueOf_0 rfl rfl ?_
  by_cases c0 : x1 = 0
  · replace hF := (if_pos c0).symm.trans hF
    refine V.tswIn (tgt := 32) c0 dX12_valueOf_1 (by decide) (by decide) rfl rfl ?_
    refine V.aload_n 0 dX12_valueOf_32 rfl rfl ?_
    refine V.getR (v := 264) fl_X12_61 sh_251 rfl fx_251_32 (by decide) dX12_valueOf_33 ?_
    refine V.iconst (v := 3) dX12_valueOf_36 rfl ?_
    refine V.iload_n 2 dX12_valueOf_37 rfl rfl ?_
    refine V.imul dX12_valueOf_38 ?_
    refine V.iconst (v := 2) dX12_valueOf_39 rfl ?_
    refine V.iadd dX12_valueOf_40 ?_
    obtain ⟨hk, hF⟩ := ck hF
    refine V.iald io_264 hk dX12_valueOf_41 ?_
    refine V.ineg dX12_valueOf_42 ?_
    cases hF
    exact V.iret dX12_valueOf_43
  replace hF := (if_neg c0).symm.trans hF
  by_cases c1 : x1 = 1
  · replace hF := (if_pos c1).symm.trans hF
    refine V.tswIn (tgt := 72) c1 dX12_valueOf_1 (by decide) (by decide) rfl rfl ?_
    exact V.sub [0, 2] rfl (v_X12_valueOf_72 hF)
  replace hF := (if_neg c1).symm.trans hF
  by_cases c2 : x1 = 2
  · replace hF := (if_pos c2).symm.trans hF
    refine V.tswIn (tgt := 44) c2 dX12_valueOf_1 (by decide) (by decide) rfl rfl ?_
    refine V.aload_n 0 dX12_valueOf_44 rfl rfl ?_
    refine V.iload_n 2 dX12_valueOf_45 rfl rfl ?_
    obtain ⟨r5, hc6, hF⟩ := bp_s hF
    refine V.callVi mf_X12_strength ml_X12_325 sh_251 (s_X12_strength hc6) (by decide) rfl rfl (Nat.le_of_ble_eq_true rfl) dX12_valueOf_46 ?_
    refine V.aload_n 0 dX12_valueOf_49 rfl rfl ?_
    refine V.getR (v := 264) fl_X12_61 sh_251 rfl fx_251_32 (by decide) dX12_valueOf_50 ?_
    refine V.iconst (v := 3) dX12_valueOf_53 rfl ?_
    refine V.iload_n 2 dX12_valueOf_54 rfl rfl ?_
    refine V.imul dX12_valueOf_55 ?_
    refine V.iconst (v := 0) dX12_valueOf_56 rfl ?_
    refine V.iadd dX12_valueOf_57 ?_
    obtain ⟨hk, hF⟩ := ck hF
    refine V.iald io_264 hk dX12_valueOf_58 ?_
    refine V.isub dX12_valueOf_59 ?_
    cases hF
    exact V.iret dX12_valueOf_60
  replace hF := (if_neg c2).symm.trans hF
  by_cases c3 : x1 = 3
  · replace hF := (if_pos c3).symm.trans hF
    refine V.tswIn (tgt := 61) c3 dX12_valueOf_1 (by decide) (by decide) rfl rfl ?_
    refine V.aload_n 0 dX12_valueOf_61 rfl rfl ?_
    refine V.getR (v := 264) fl_X12_61 sh_251 rfl fx_251_32 (by decide) dX12_valueOf_62 ?_
    refine V.iconst (v := 3) dX12_valueOf_65 rfl ?_
    refine V.iload_n 2 dX12_valueOf_66 rfl rfl ?_
    refine V.imul dX12_valueOf_67 ?_
    refine V.iconst (v := 1) dX12_valueOf_68 rfl ?_
    refine V.iadd dX12_valueOf_69 ?_
    obtain ⟨hk, hF⟩ := ck hF
    refine V.iald io_264 hk dX12_valueOf_70 ?_
    cases hF
    exact V.iret dX12_valueOf_71
  replace hF := (if_neg c3).symm.trans hF
  refine V.tswOut (tgt := 72) dX12_valueOf_1 (tsw_out (by decide) (by decide) [0, 1, 2, 3] rfl (fun v hv => ?_)) rfl ?_
  · simp only [List.mem_cons, List.not_mem_nil, or_false] at hv
    rcases hv with rfl | rfl | rfl | rfl <;> assumption
  exact V.sub [0, 2] rfl (v_X12_valueOf_72 hF)
/-! MonsterCotModel.longest -/
theorem dX12_longest_0 : decode cX12_longest 0 = .ok (.iconst 0, 1) := by decide +kernel
theorem dX12_longest_1 : decode cX12_longest 1 = .ok (.istore_n 1, 1) := by decide +kernel
theorem dX12_longest_2 : decode cX12_longest 2 = .ok (.iconst 1, 1) := by decide +kernel
theorem dX12_longest_3 : decode cX12_longest 3 = .ok (.istore_n 2, 1) := by decide +kernel
theorem dX12_longest_4 : decode cX12_longest 4 = .ok (.iload_n 2, 1) := by decide +kernel
theorem dX12_longest_5 : decode cX12_longest 5 = .ok (.aload_n 0, 1) := by decide +kernel
theorem dX12_longest_6 : decode cX12_longest 6 = .ok (.getfield 288, 3) := by decide +kernel
theorem dX12_longest_9 : decode cX12_longest 9 = .ok (.if_icmp .ge 28, 3) := by decide +kernel
theorem dX12_longest_12 : decode cX12_longest 12 = .ok (.aload_n 0, 1) := by decide +kernel
theorem dX12_longest_13 : decode cX12_longest 13 = .ok (.iload_n 2, 1) := by decide +kernel
theorem dX12_longest_14 : decode cX12_longest 14 = .ok (.invokevirtual 322, 3) := by decide +kernel
theorem dX12_longest_17 : decode cX12_longest 17 = .ok (.aload_n 0, 1) := by decide +kernel
theorem dX12_longest_18 : decode cX12_longest 18 = .ok (.iload_n 1, 1) := by decide +kernel
theorem dX12_longest_19 : decode cX12_longest 19 = .ok (.invokevirtual 322, 3) := by decide +kernel
theorem dX12_longest_22 : decode cX12_longest 22 = .ok (.if_icmp .le 7, 3) := by decide +kernel
theorem dX12_longest_25 : decode cX12_longest 25 = .ok (.iload_n 2, 1) := by decide +kernel
theorem dX12_longest_26 : decode cX12_longest 26 = .ok (.goto 4, 3) := by decide +kernel
theorem dX12_longest_29 : decode cX12_longest 29 = .ok (.iload_n 1, 1) := by decide +kernel
theorem dX12_longest_30 : decode cX12_longest 30 = .ok (.istore_n 1, 1) := by decide +kernel
theorem dX12_longest_31 : decode cX12_longest 31 = .ok (.iinc 2 1, 3) := by decide +kernel
theorem dX12_longest_34 : decode cX12_longest 34 = .ok (.goto (-30), 3) := by decide +kernel
theorem dX12_longest_37 : decode cX12_longest 37 = .ok (.iload_n 1, 1) := by decide +kernel
theorem dX12_longest_38 : decode cX12_longest 38 = .ok (.ireturn, 1) := by decide +kernel
def X12_longest_30 (n : Nat) (K4 : Int32 → Int32 → Mm → Option Int32) (x2 : Int32) (s0 : Int32) (h : Mm) : Option Int32 := (K4 s0 (x2 + (1)) h)
set_option maxRecDepth 100000 in
set_option maxHeartbeats 4000000 in
theorem v_X12_longest_30 {X : WX} {G : GX} {o : Mm} {n : Nat} {K4 : Int32 → Int32 → Mm → Option Int32} {rv : Int32} {h : Mm} (hK4 : ∀ (x1 : Int32) (x2 : Int32), K4 x1 x2 h = some rv → V X G RX12 cX12_longest 3 (some .int) 2 0 0 (QR X G false o (some (.int rv)) h) false o 4 [(0, .ref (xa X 251)), (1, .int x1), (2, .int x2)] [] h) {x2 : Int32} {s0 : Int32} (hF : X12_longest_30 n K4 x2 s0 h = some rv) : V X G RX12 cX12_longest 3 (some .int) 2 0 0 (QR X G false o (some (.int rv)) h) false o 30 [(0, .ref (xa X 251)), (2, .int x2)] [.int s0] h := by
  unfold X12_longest_30 at hF
  refine V.istore_n [(1, _), (0, _), (2, _)] dX12_longest_30 rfl (by decide) rfl ?_
  refine V.iinc (v := (x2 + (1))) 2 [(2, _), (1, _), (0, _)] dX12_longest_31 rfl rfl (by decide) rfl ?_
  refine V.goto (tgt := 4) dX12_longest_34 rfl ?_
  exact V.sub [2, 1, 0] rfl (hK4 _ _ hF)
def X12_longest_4 (n : Nat) : Nat → Int32 → Int32 → Mm → Option Int32
  | 0, _, _, _ => none
  | f + 1, x1, x2, h => (if (h.1 251 26) ≤ x2 then (some x1) else (bp (X12_pagesOf x2 h) (fun r17 => (bp (X12_pagesOf x1 h) (fun r19 => (if r17 ≤ r19 then (X12_longest_30 n (X12_longest_4 n f) x2 x1 h) else (X12_longest_30 n (X12_longest_4 n f) x2 x2 h)))))))
set_option maxRecDepth 100000 in
set_option maxHeartbeats 4000000 in
theorem v_X12_longest_4 {X : WX} {G : GX} {o : Mm} {n : Nat} {rv : Int32} {h : Mm} : ∀ (f : Nat) (x1 : Int32) (x2 : Int32), X12_longest_4 n f x1 x2 h = some rv → V X G RX12 cX12_longest 3 (some .int) 2 0 0 (QR X G false o (some (.int rv)) h) false o 4 [(0, .ref (xa X 251)), (1, .int x1), (2, .int x2)] [] h := by
  intro f
  induction f with
  | zero => intro x1 x2 hF; exact nomatch (show (none : Option Int32) = some rv from hF)
  | succ f ih =>
    intro x1 x2 hF
    unfold X12_longest_4 at hF
    refine V.iload_n 2 dX12_longest_4 rfl rfl ?_
    refine V.aload_n 0 dX12_longest_5 rfl rfl ?_
    refine V.getI fl_X12_288 sh_251 rfl km_251 dX12_longest_6 ?_
    refine V.icmp_ge (tgt := 37) dX12_longest_9 rfl (fun c => ?_) (fun c => ?_)
    · replace hF := (if_pos c).symm.trans hF
      refine V.iload_n 1 dX12_longest_37 rfl rfl ?_
      cases hF
      exact V.iret dX12_longest_38
    · replace hF := (if_neg c).symm.trans hF
      refine V.aload_n 0 dX12_longest_12 rfl rfl ?_
      refine V.iload_n 2 dX12_longest_13 rfl rfl ?_
      obtain ⟨r17, hc18, hF⟩ := bp_s hF
      refine V.callVi mf_X12_pagesOf ml_X12_322 sh_251 (s_X12_pagesOf hc18) (by decide) rfl rfl (Nat.le_of_ble_eq_true rfl) dX12_longest_14 ?_
      refine V.aload_n 0 dX12_longest_17 rfl rfl ?_
      refine V.iload_n 1 dX12_longest_18 rfl rfl ?_
      obtain ⟨r19, hc20, hF⟩ := bp_s hF
      refine V.callVi mf_X12_pagesOf ml_X12_322 sh_251 (s_X12_pagesOf hc20) (by decide) rfl rfl (Nat.le_of_ble_eq_true rfl) dX12_longest_19 ?_
      refine V.icmp_le (tgt := 29) dX12_longest_22 rfl (fun c => ?_) (fun c => ?_)
      · replace hF := (if_pos c).symm.trans hF
        refine V.iload_n 1 dX12_longest_29 rfl rfl ?_
        exact V.sub [0, 2] rfl (v_X12_longest_30 ih hF)
      · replace hF := (if_neg c).symm.trans hF
        refine V.iload_n 2 dX12_longest_25 rfl rfl ?_
        refine V.goto (tgt := 30) dX12_longest_26 rfl ?_
        exact V.sub [0, 2] rfl (v_X12_longest_30 ih hF)
def X12_longest (n : Nat) (h : Mm) : Option Int32 := (X12_longest_4 n n (0) (1) h)
set_option maxRecDepth 100000 in
set_option maxHeartbeats 4000000 in
theorem s_X12_longest {X : WX} {o : Mm} {n : Nat} {rv : Int32} {h : Mm} (hF : X12_longest n h = some rv) : Sat X yX12_longest cX12_longest 3 (some .int) 2 [.ref (xa X 251)] false o h (some (.int rv)) h := by
  unfold X12_longest at hF
  refine Sat.mk (own := RX12) rfl (by decide +kernel) (Nat.le_of_ble_eq_true rfl) (fun G => ?_)
  refine V.sub (lv2 := [(0, _)]) [0] rfl ?_
  refine V.iconst (v := 0) dX12_longest_0 rfl ?_
  refine V.istore_n [(1, _), (0, _)] dX12_longest_1 rfl (by decide) rfl ?_
  refine V.iconst (v := 1) dX12_longest_2 rfl ?_
  refine V.istore_n [(2, _), (1, _), (0, _)] dX12_longest_3 rfl (by decide) rfl ?_
  exact V.sub [2, 1, 0] rfl (v_X12_longest_4 n _ _ hF)
/-! MonsterCotModel.all -/
theorem dX12_all_0 : decode cX12_all 0 = .ok (.aload_n 0, 1) := by decide +kernel
theorem dX12_all_1 : decode cX12_all 1 = .ok (.iconst 0, 1) := by decide +kernel
theorem dX12_all_2 : decode cX12_all 2 = .ok (.putfield 93, 3) := by decide +kernel
theorem dX12_all_5 : decode cX12_all 5 = .ok (.aload_n 0, 1) := by decide +kernel
theorem dX12_all_6 : decode cX12_all 6 = .ok (.getfield 291, 3) := by decide +kernel
theorem dX12_all_9 : decode cX12_all 9 = .ok (.ifCond .eq 15, 3) := by decide +kernel
theorem dX12_all_12 : decode cX12_all 12 = .ok (.iload_n 1, 1) := by decide +kernel
theorem dX12_all_13 : decode cX12_all 13 = .ok (.i2l, 1) := by decide +kernel
theorem dX12_all_14 : decode cX12_all 14 = .ok (.lconst 0, 1) := by decide +kernel
theorem dX12_all_15 : decode cX12_all 15 = .ok (.ldc2_w 467, 3) := by decide +kernel
theorem dX12_all_18 : decode cX12_all 18 = .ok (.invokestatic 214, 3) := by decide +kernel
theorem dX12_all_21 : decode cX12_all 21 = .ok (.ifCond .ne 5, 3) := by decide +kernel
theorem dX12_all_24 : decode cX12_all 24 = .ok (.iconst (-1), 1) := by decide +kernel
theorem dX12_all_25 : decode cX12_all 25 = .ok (.ireturn, 1) := by decide +kernel
theorem dX12_all_26 : decode cX12_all 26 = .ok (.iload_n 1, 1) := by decide +kernel
theorem dX12_all_27 : decode cX12_all 27 = .ok (.iconst 1, 1) := by decide +kernel
theorem dX12_all_28 : decode cX12_all 28 = .ok (.if_icmp .ne 23, 3) := by decide +kernel
theorem dX12_all_31 : decode cX12_all 31 = .ok (.aload_n 0, 1) := by decide +kernel
theorem dX12_all_32 : decode cX12_all 32 = .ok (.aload_n 0, 1) := by decide +kernel
theorem dX12_all_33 : decode cX12_all 33 = .ok (.getfield 61, 3) := by decide +kernel
theorem dX12_all_36 : decode cX12_all 36 = .ok (.bipush 22, 2) := by decide +kernel
theorem dX12_all_38 : decode cX12_all 38 = .ok (.iaload, 1) := by decide +kernel
theorem dX12_all_39 : decode cX12_all 39 = .ok (.invokevirtual 340, 3) := by decide +kernel
theorem dX12_all_42 : decode cX12_all 42 = .ok (.ifCond .eq 7, 3) := by decide +kernel
theorem dX12_all_45 : decode cX12_all 45 = .ok (.iconst 1, 1) := by decide +kernel
theorem dX12_all_46 : decode cX12_all 46 = .ok (.goto 4, 3) := by decide +kernel
theorem dX12_all_49 : decode cX12_all 49 = .ok (.iconst 0, 1) := by decide +kernel
theorem dX12_all_50 : decode cX12_all 50 = .ok (.ireturn, 1) := by decide +kernel
theorem dX12_all_51 : decode cX12_all 51 = .ok (.iload_n 1, 1) := by decide +kernel
theorem dX12_all_52 : decode cX12_all 52 = .ok (.iconst 5, 1) := by decide +kernel
theorem dX12_all_53 : decode cX12_all 53 = .ok (.if_icmp .ne 8, 3) := by decide +kernel
theorem dX12_all_56 : decode cX12_all 56 = .ok (.aload_n 0, 1) := by decide +kernel
theorem dX12_all_57 : decode cX12_all 57 = .ok (.invokevirtual 469, 3) := by decide +kernel
theorem dX12_all_60 : decode cX12_all 60 = .ok (.ireturn, 1) := by decide +kernel
theorem dX12_all_61 : decode cX12_all 61 = .ok (.iconst 0, 1) := by decide +kernel
theorem dX12_all_62 : decode cX12_all 62 = .ok (.istore_n 2, 1) := by decide +kernel
theorem dX12_all_63 : decode cX12_all 63 = .ok (.iload_n 1, 1) := by decide +kernel
theorem dX12_all_64 : decode cX12_all 64 = .ok (.bipush 6, 2) := by decide +kernel
theorem dX12_all_66 : decode cX12_all 66 = .ok (.if_icmp .ne 38, 3) := by decide +kernel
theorem dX12_all_69 : decode cX12_all 69 = .ok (.iconst 0, 1) := by decide +kernel
theorem dX12_all_70 : decode cX12_all 70 = .ok (.istore_n 3, 1) := by decide +kernel
theorem dX12_all_71 : decode cX12_all 71 = .ok (.iload_n 3, 1) := by decide +kernel
theorem dX12_all_72 : decode cX12_all 72 = .ok (.iconst 4, 1) := by decide +kernel
theorem dX12_all_73 : decode cX12_all 73 = .ok (.if_icmp .ge 31, 3) := by decide +kernel
theorem dX12_all_76 : decode cX12_all 76 = .ok (.iload_n 2, 1) := by decide +kernel
theorem dX12_all_77 : decode cX12_all 77 = .ok (.aload_n 0, 1) := by decide +kernel
theorem dX12_all_78 : decode cX12_all 78 = .ok (.getfield 61, 3) := by decide +kernel
theorem dX12_all_81 : decode cX12_all 81 = .ok (.bipush 18, 2) := by decide +kernel
theorem dX12_all_83 : decode cX12_all 83 = .ok (.iload_n 3, 1) := by decide +kernel
theorem dX12_all_84 : decode cX12_all 84 = .ok (.iadd, 1) := by decide +kernel
theorem dX12_all_85 : decode cX12_all 85 = .ok (.iaload, 1) := by decide +kernel
theorem dX12_all_86 : decode cX12_all 86 = .ok (.ifCond .ne 9, 3) := by decide +kernel
theorem dX12_all_89 : decode cX12_all 89 = .ok (.iconst 1, 1) := by decide +kernel
theorem dX12_all_90 : decode cX12_all 90 = .ok (.iload_n 3, 1) := by decide +kernel
theorem dX12_all_91 : decode cX12_all 91 = .ok (.ishl, 1) := by decide +kernel
theorem dX12_all_92 : decode cX12_all 92 = .ok (.goto 4, 3) := by decide +kernel
theorem dX12_all_95 : decode cX12_all 95 = .ok (.iconst 0, 1) := by decide +kernel
theorem dX12_all_96 : decode cX12_all 96 = .ok (.ior, 1) := by decide +kernel
theorem dX12_all_97 : decode cX12_all 97 = .ok (.istore_n 2, 1) := by decide +kernel
theorem dX12_all_98 : decode cX12_all 98 = .ok (.iinc 3 1, 3) := by decide +kernel
theorem dX12_all_101 : decode cX12_all 101 = .ok (.goto (-30), 3) := by decide +kernel
theorem dX12_all_104 : decode cX12_all 104 = .ok (.iload_n 1, 1) := by decide +kernel
theorem dX12_all_105 : decode cX12_all 105 = .ok (.bipush 7, 2) := by decide +kernel
theorem dX12_all_107 : decode cX12_all 107 = .ok (.if_icmp .ne 47, 3) := by decide +kernel
theorem dX12_all_110 : decode cX12_all 110 = .ok (.iconst 0, 1) := by decide +kernel
theorem dX12_all_111 : decode cX12_all 111 = .ok (.istore_n 3, 1) := by decide +kernel
theorem dX12_all_112 : decode cX12_all 112 = .ok (.iload_n 3, 1) := by decide +kernel
theorem dX12_all_113 : decode cX12_all 113 = .ok (.aload_n 0, 1) := by decide +kernel
theorem dX12_all_114 : decode cX12_all 114 = .ok (.getfield 288, 3) := by decide +kernel
theorem dX12_all_117 : decode cX12_all 117 = .ok (.if_icmp .ge 37, 3) := by decide +kernel
theorem dX12_all_120 : decode cX12_all 120 = .ok (.iload_n 2, 1) := by decide +kernel
theorem dX12_all_121 : decode cX12_all 121 = .ok (.aload_n 0, 1) := by decide +kernel
theorem dX12_all_122 : decode cX12_all 122 = .ok (.aload_n 0, 1) := by decide +kernel
theorem dX12_all_123 : decode cX12_all 123 = .ok (.getfield 61, 3) := by decide +kernel
theorem dX12_all_126 : decode cX12_all 126 = .ok (.iload_n 3, 1) := by decide +kernel
theorem dX12_all_127 : decode cX12_all 127 = .ok (.aload_n 0, 1) := by decide +kernel
theorem dX12_all_128 : decode cX12_all 128 = .ok (.iload_n 3, 1) := by decide +kernel
theorem dX12_all_129 : decode cX12_all 129 = .ok (.invokevirtual 322, 3) := by decide +kernel
theorem dX12_all_132 : decode cX12_all 132 = .ok (.iconst 0, 1) := by decide +kernel
theorem dX12_all_133 : decode cX12_all 133 = .ok (.invokevirtual 359, 3) := by decide +kernel
theorem dX12_all_136 : decode cX12_all 136 = .ok (.ifCond .eq 9, 3) := by decide +kernel
theorem dX12_all_139 : decode cX12_all 139 = .ok (.iconst 1, 1) := by decide +kernel
theorem dX12_all_140 : decode cX12_all 140 = .ok (.iload_n 3, 1) := by decide +kernel
theorem dX12_all_141 : decode cX12_all 141 = .ok (.ishl, 1) := by decide +kernel
theorem dX12_all_142 : decode cX12_all 142 = .ok (.goto 4, 3) := by decide +kernel
theorem dX12_all_145 : decode cX12_all 145 = .ok (.iconst 0, 1) := by decide +kernel
theorem dX12_all_146 : decode cX12_all 146 = .ok (.ior, 1) := by decide +kernel
theorem dX12_all_147 : decode cX12_all 147 = .ok (.istore_n 2, 1) := by decide +kernel
theorem dX12_all_148 : decode cX12_all 148 = .ok (.iinc 3 1, 3) := by decide +kernel
theorem dX12_all_151 : decode cX12_all 151 = .ok (.goto (-39), 3) := by decide +kernel
theorem dX12_all_154 : decode cX12_all 154 = .ok (.iload_n 1, 1) := by decide +kernel
theorem dX12_all_155 : decode cX12_all 155 = .ok (.iconst 5, 1) := by decide +kernel
theorem dX12_all_156 : decode cX12_all 156 = .ok (.if_icmp .le 5, 3) := by decide +kernel
theorem dX12_all_159 : decode cX12_all 159 = .ok (.iload_n 2, 1) := by decide +kernel
theorem dX12_all_160 : decode cX12_all 160 = .ok (.ireturn, 1) := by decide +kernel
theorem dX12_all_161 : decode cX12_all 161 = .ok (.iconst 0, 1) := by decide +kernel
theorem dX12_all_162 : decode cX12_all 162 = .ok (.istore_n 3, 1) := by decide +kernel
theorem dX12_all_163 : decode cX12_all 163 = .ok (.iconst 1, 1) := by decide +kernel
theorem dX12_all_164 : decode cX12_all 164 = .ok (.istore 4, 2) := by decide +kernel
theorem dX12_all_166 : decode cX12_all 166 = .ok (.iload 4, 2) := by decide +kernel
theorem dX12_all_168 : decode cX12_all 168 = .ok (.aload_n 0, 1) := by decide +kernel
theorem dX12_all_169 : decode cX12_all 169 = .ok (.getfield 291, 3) := by decide +kernel
theorem dX12_all_172 : decode cX12_all 172 = .ok (.if_icmp .ge 32, 3) := by decide +kernel
theorem dX12_all_175 : decode cX12_all 175 = .ok (.aload_n 0, 1) := by decide +kernel
theorem dX12_all_176 : decode cX12_all 176 = .ok (.iload_n 1, 1) := by decide +kernel
theorem dX12_all_177 : decode cX12_all 177 = .ok (.iload 4, 2) := by decide +kernel
theorem dX12_all_179 : decode cX12_all 179 = .ok (.invokevirtual 472, 3) := by decide +kernel
theorem dX12_all_182 : decode cX12_all 182 = .ok (.aload_n 0, 1) := by decide +kernel
theorem dX12_all_183 : decode cX12_all 183 = .ok (.iload_n 1, 1) := by decide +kernel
theorem dX12_all_184 : decode cX12_all 184 = .ok (.iload_n 3, 1) := by decide +kernel
theorem dX12_all_185 : decode cX12_all 185 = .ok (.invokevirtual 472, 3) := by decide +kernel
theorem dX12_all_188 : decode cX12_all 188 = .ok (.if_icmp .le 8, 3) := by decide +kernel
theorem dX12_all_191 : decode cX12_all 191 = .ok (.iload 4, 2) := by decide +kernel
theorem dX12_all_193 : decode cX12_all 193 = .ok (.goto 4, 3) := by decide +kernel
theorem dX12_all_196 : decode cX12_all 196 = .ok (.iload_n 3, 1) := by decide +kernel
theorem dX12_all_197 : decode cX12_all 197 = .ok (.istore_n 3, 1) := by decide +kernel
theorem dX12_all_198 : decode cX12_all 198 = .ok (.iinc 4 1, 3) := by decide +kernel
theorem dX12_all_201 : decode cX12_all 201 = .ok (.goto (-35), 3) := by decide +kernel
theorem dX12_all_204 : decode cX12_all 204 = .ok (.iload_n 3, 1) := by decide +kernel
theorem dX12_all_205 : decode cX12_all 205 = .ok (.ireturn, 1) := by decide +kernel
def X12_all_96 (n : Nat) (K71 : Int32 → Int32 → Int32 → Mm → Option (Int32 × Mm)) (x1 : Int32) (x3 : Int32) (s0 : Int32) (s1 : Int32) (h : Mm) : Option (Int32 × Mm) := (K71 x1 (s0 ||| s1) (x3 + (1)) h)
set_option maxRecDepth 100000 in
set_option maxHeartbeats 4000000 in
theorem v_X12_all_96 {X : WX} {G : GX} {o : Mm} {n : Nat} {K71 : Int32 → Int32 → Int32 → Mm → Option (Int32 × Mm)} {rv : Int32} {hz : Mm} (hK71 : ∀ (x1 : Int32) (x2 : Int32) (x3 : Int32) (h : Mm), K71 x1 x2 x3 h = some (rv, hz) → V X G RX12 cX12_all 5 (some .int) 4 0 0 (QR X G false o (some (.int rv)) hz) false o 71 [(0, .ref (xa X 251)), (1, .int x1), (2, .int x2), (3, .int x3)] [] h) {x1 : Int32} {x3 : Int32} {s0 : Int32} {s1 : Int32} {h : Mm} (hF : X12_all_96 n K71 x1 x3 s0 s1 h = some (rv, hz)) : V X G RX12 cX12_all 5 (some .int) 4 0 0 (QR X G false o (some (.int rv)) hz) false o 96 [(0, .ref (xa X 251)), (1, .int x1), (3, .int x3)] [.int s1, .int s0] h := by
  unfold X12_all_96 at hF
  refine V.ior dX12_all_96 ?_
  refine V.istore_n [(2, _), (0, _), (1, _), (3, _)] dX12_all_97 rfl (by decide) rfl ?_
  refine V.iinc (v := (x3 + (1))) 3 [(3, _), (2, _), (0, _), (1, _)] dX12_all_98 rfl rfl (by decide) rfl ?_
  refine V.goto (tgt := 71) dX12_all_101 rfl ?_
  exact V.sub [2, 3, 1, 0] rfl (hK71 _ _ _ _ hF)
def X12_all_146 (n : Nat) (K112 : Int32 → Int32 → Int32 → Mm → Option (Int32 × Mm)) (x1 : Int32) (x3 : Int32) (s0 : Int32) (s1 : Int32) (h : Mm) : Option (Int32 × Mm) := (K112 x1 (s0 ||| s1) (x3 + (1)) h)
set_option maxRecDepth 100000 in
set_option maxHeartbeats 4000000 in
theorem v_X12_all_146 {X : WX} {G : GX} {o : Mm} {n : Nat} {K112 : Int32 → Int32 → Int32 → Mm → Option (Int32 × Mm)} {rv : Int32} {hz : Mm} (hK112 : ∀ (x1 : Int32) (x2 : Int32) (x3 : Int32) (h : Mm), K112 x1 x2 x3 h = some (rv, hz) → V X G RX12 cX12_all 5 (some .int) 4 0 0 (QR X G false o (some (.int rv)) hz) false o 112 [(0, .ref (xa X 251)), (1, .int x1), (2, .int x2), (3, .int x3)] [] h) {x1 : Int32} {x3 : Int32} {s0 : Int32} {s1 : Int32} {h : Mm} (hF : X12_all_146 n K112 x1 x3 s0 s1 h = some (rv, hz)) : V X G RX12 cX12_all 5 (some .int) 4 0 0 (QR X G false o (some (.int rv)) hz) false o 146 [(0, .ref (xa X 251)), (1, .int x1), (3, .int x3)] [.int s1, .int s0] h := by
  unfold X12_all_146 at hF
  refine V.ior dX12_all_146 ?_
  refine V.istore_n [(2, _), (0, _), (1, _), (3, _)] dX12_all_147 rfl (by decide) rfl ?_
  refine V.iinc (v := (x3 + (1))) 3 [(3, _), (2, _), (0, _), (1, _)] dX12_all_148 rfl rfl (by decide) rfl ?_
  refine V.goto (tgt := 112) dX12_all_151 rfl ?_
  exact V.sub [2, 3, 1, 0] rfl (hK112 _ _ _ _ hF)
def X12_all_197 (n : Nat) (K166 : Int32 → Int32 → Int32 → Mm → Option (Int32 × Mm)) (x1 : Int32) (x4 : Int32) (s0 : Int32) (h : Mm) : Option (Int32 × Mm) := (K166 x1 s0 (x4 + (1)) h)
set_option maxRecDepth 100000 in
set_option maxHeartbeats 4000000 in
theorem v_X12_all_197 {X : WX} {G : GX} {o : Mm} {n : Nat} {K166 : Int32 → Int32 → Int32 → Mm → Option (Int32 × Mm)} {rv : Int32} {hz : Mm} (hK166 : ∀ (x1 : Int32) (x3 : Int32) (x4 : Int32) (h : Mm), K166 x1 x3 x4 h = some (rv, hz) → V X G RX12 cX12_all 5 (some .int) 4 0 0 (QR X G false o (some (.int rv)) hz) false o 166 [(0, .ref (xa X 251)), (1, .int x1), (3, .int x3), (4, .int x4)] [] h) {x1 : Int32} {x4 : Int32} {s0 : Int32} {h : Mm} (hF : X12_all_197 n K166 x1 x4 s0 h = some (rv, hz)) : V X G RX12 cX12_all 5 (some .int) 4 0 0 (QR X G false o (some (.int rv)) hz) false o 197 [(0, .ref (xa X 251)), (1, .int x1), (4, .int x4)] [.int s0] h := by
  unfold X12_all_197 at hF
  refine V.istore_n [(3, _), (0, _), (1, _), (4, _)] dX12_all_197 rfl (by decide) rfl ?_
  refine V.iinc (v := (x4 + (1))) 3 [(4, _), (3, _), (0, _), (1, _)] dX12_all_198 rfl rfl (by decide) rfl ?_
  refine V.goto (tgt := 166) dX12_all_201 rfl ?_
  exact V.sub [2, 3, 1, 0] rfl (hK166 _ _ _ _ hF)
def X12_all_166 (n : Nat) : Nat → Int32 → Int32 → Int32 → Mm → Option (Int32 × Mm)
  | 0, _, _, _, _ => none
  | f + 1, x1, x3, x4, h => (if (h.1 251 27) ≤ x4 then (some (x3, h)) else (bp (X12_valueOf x1 x4 h) (fun r73 => (bp (X12_valueOf x1 x3 h) (fun r75 => (if r73 ≤ r75 then (X12_all_197 n (X12_all_166 n f) x1 x4 x3 h) else (X12_all_197 n (X12_all_166 n f) x1 x4 x4 h)))))))
set_option maxRecDepth 100000 in
set_option maxHeartbeats 4000000 in
theorem v_X12_all_166 {X : WX} {G : GX} {o : Mm} {n : Nat} {rv : Int32} {hz : Mm} : ∀ (f : Nat) (x1 : Int32) (x3 : Int32) (x4 : Int32) (h : Mm), X12_all_166 n f x1 x3 x4 h = some (rv, hz) → V X G RX12 cX12_all 5 (some .int) 4 0 0 (QR X G false o (some (.int rv)) hz) false o 166 [(0, .ref (xa X 251)), (1, .int x1), (3, .int x3), (4, .int x4)] [] h := by
  intro f
  induction f with
  | zero => intro x1 x3 x4 h hF; exact nomatch (show (none : Option (Int32 × Mm)) = some (rv, hz) from hF)
  | succ f ih =>
    intro x1 x3 x4 h hF
    unfold X12_all_166 at hF
    refine V.iload 3 dX12_all_166 rfl ?_
    refine V.aload_n 0 dX12_all_168 rfl rfl ?_
    refine V.getI fl_X12_291 sh_251 rfl km_251 dX12_all_169 ?_
    refine V.icmp_ge (tgt := 204) dX12_all_172 rfl (fun c => ?_) (fun c => ?_)
    · replace hF := (if_pos c).symm.trans hF
      refine V.iload_n 2 dX12_all_204 rfl rfl ?_
      cases hF
      exact V.iret dX12_all_205
    · replace hF := (if_neg c).symm.trans hF
      refine V.aload_n 0 dX12_all_175 rfl rfl ?_
      refine V.iload_n 1 dX12_all_176 rfl rfl ?_
      refine V.iload 3 dX12_all_177 rfl ?_
      obtain ⟨r73, hc74, hF⟩ := bp_s hF
      refine V.callVi mf_X12_valueOf ml_X12_472 sh_251 (s_X12_valueOf hc74) (by decide) rfl rfl (Nat.le_of_ble_eq_true rfl) dX12_all_179 ?_
      refine V.aload_n 0 dX12_all_182 rfl rfl ?_
      refine V.iload_n 1 dX12_all_183 rfl rfl ?_
      refine V.iload_n 2 dX12_all_184 rfl rfl ?_
      obtain ⟨r75, hc76, hF⟩ := bp_s hF
      refine V.callVi mf_X12_valueOf ml_X12_472 sh_251 (s_X12_valueOf hc76) (by decide) rfl rfl (Nat.le_of_ble_eq_true rfl) dX12_all_185 ?_
      refine V.icmp_le (tgt := 196) dX12_all_188 rfl (fun c => ?_) (fun c => ?_)
      · replace hF := (if_pos c).symm.trans hF
        refine V.iload_n 2 dX12_all_196 rfl rfl ?_
        exact V.sub [0, 1, 3] rfl (v_X12_all_197 ih hF)
      · replace hF := (if_neg c).symm.trans hF
        refine V.iload 3 dX12_all_191 rfl ?_
        refine V.goto (tgt := 197) dX12_all_193 rfl ?_
        exact V.sub [0, 1, 3] rfl (v_X12_all_197 ih hF)
def X12_all_154 (n : Nat) (x1 : Int32) (x2 : Int32) (h : Mm) : Option (Int32 × Mm) := (if x1 ≤ (5) then (X12_all_166 n n x1 (0) (1) h) else (some (x2, h)))
set_option maxRecDepth 100000 in
set_option maxHeartbeats 4000000 in
theorem v_X12_all_154 {X : WX} {G : GX} {o : Mm} {n : Nat} {rv : Int32} {hz : Mm} {x1 : Int32} {x2 : Int32} {h : Mm} (hF : X12_all_154 n x1 x2 h = some (rv, hz)) : V X G RX12 cX12_all 5 (some .int) 4 0 0 (QR X G false o (some (.int rv)) hz) false o 154 [(0, .ref (xa X 251)), (1, .int x1), (2, .int x2)] [] h := by
  unfold X12_all_154 at hF
  refine V.iload_n 1 dX12_all_154 rfl rfl ?_
  refine V.iconst (v := 5) dX12_all_155 rfl ?_
  refine V.icmp_le (tgt := 161) dX12_all_156 rfl (fun c => ?_) (fun c => ?_)
  · replace hF := (if_pos c).symm.trans hF
    refine V.iconst (v := 0) dX12_all_161 rfl ?_
    refine V.istore_n [(3, _), (0, _), (1, _), (2, _)] dX12_all_162 rfl (by decide) rfl ?_
    refine V.iconst (v := 1) dX12_all_163 rfl ?_
    refine V.istore [(4, _), (3, _), (0, _), (1, _), (2, _)] dX12_all_164 (by decide) rfl ?_
    exact V.sub [2, 3, 1, 0] rfl (v_X12_all_166 n _ _ _ _ hF)
  · replace hF := (if_neg c).symm.trans hF
    refine V.iload_n 2 dX12_all_159 rfl rfl ?_
    cases hF
    exact V.iret dX12_all_160
def X12_all_112 (n : Nat) : Nat → Int32 → Int32 → Int32 → Mm → Option (Int32 × Mm)
  | 0, _, _, _, _ => none
  | f + 1, x1, x2, x3, h => (if (h.1 251 26) ≤ x3 then (X12_all_154 n x1 x2 h) else (bp (X12_pagesOf x3 h) (fun r77 => (bp (X12_mayRead 264 x3 r77 false h) (fun r79 => (if r79 = true then (X12_all_146 n (X12_all_112 n f) x1 x3 x2 ((1) <<< (x3 &&& 31)) h) else (X12_all_146 n (X12_all_112 n f) x1 x3 x2 (0) h)))))))
set_option maxRecDepth 100000 in
set_option maxHeartbeats 4000000 in
theorem v_X12_all_112 {X : WX} {G : GX} {o : Mm} {n : Nat} {rv : Int32} {hz : Mm} : ∀ (f : Nat) (x1 : Int32) (x2 : Int32) (x3 : Int32) (h : Mm), X12_all_112 n f x1 x2 x3 h = some (rv, hz) → V X G RX12 cX12_all 5 (some .int) 4 0 0 (QR X G false o (some (.int rv)) hz) false o 112 [(0, .ref (xa X 251)), (1, .int x1), (2, .int x2), (3, .int x3)] [] h := by
  intro f
  induction f with
  | zero => intro x1 x2 x3 h hF; exact nomatch (show (none : Option (Int32 × Mm)) = some (rv, hz) from hF)
  | succ f ih =>
    intro x1 x2 x3 h hF
    unfold X12_all_112 at hF
    refine V.iload_n 3 dX12_all_112 rfl rfl ?_
    refine V.aload_n 0 dX12_all_113 rfl rfl ?_
    refine V.getI fl_X12_288 sh_251 rfl km_251 dX12_all_114 ?_
    refine V.icmp_ge (tgt := 154) dX12_all_117 rfl (fun c => ?_) (fun c => ?_)
    · replace hF := (if_pos c).symm.trans hF
      exact V.sub [0, 1, 2] rfl (v_X12_all_154 hF)
    · replace hF := (if_neg c).symm.trans hF
      refine V.iload_n 2 dX12_all_120 rfl rfl ?_
      refine V.aload_n 0 dX12_all_121 rfl rfl ?_
      refine V.aload_n 0 dX12_all_122 rfl rfl ?_
      refine V.getR (v := 264) fl_X12_61 sh_251 rfl fx_251_32 (by decide) dX12_all_123 ?_
      refine V.iload_n 3 dX12_all_126 rfl rfl ?_
      refine V.aload_n 0 dX12_all_127 rfl rfl ?_
      refine V.iload_n 3 dX12_all_128 rfl rfl ?_
      obtain ⟨r77, hc78, hF⟩ := bp_s hF
      refine V.callVi mf_X12_pagesOf ml_X12_322 sh_251 (s_X12_pagesOf hc78) (by decide) rfl rfl (Nat.le_of_ble_eq_true rfl) dX12_all_129 ?_
      refine V.iconst (v := 0) dX12_all_132 rfl ?_
      obtain ⟨r79, hc80, hF⟩ := bp_s hF
      refine V.callVi mf_X12_mayRead ml_X12_359 sh_251 (s_X12_mayRead io_264 hc80) (by decide) rfl rfl (Nat.le_of_ble_eq_true rfl) dX12_all_133 ?_
      refine V.ifz_eq (tgt := 145) dX12_all_136 rfl (fun c => ?_) (fun c => ?_)
      · replace hF := (if_neg c).symm.trans hF
        refine V.iconst (v := 0) dX12_all_145 rfl ?_
        exact V.sub [0, 1, 3] rfl (v_X12_all_146 ih hF)
      · replace hF := (if_pos c).symm.trans hF
        refine V.iconst (v := 1) dX12_all_139 rfl ?_
        refine V.iload_n 3 dX12_all_140 rfl rfl ?_
        refine V.ishl dX12_all_141 ?_
        refine V.goto (tgt := 146) dX12_all_142 rfl ?_
        exact V.sub [0, 1, 3] rfl (v_X12_all_146 ih hF)
def X12_all_104 (n : Nat) (x1 : Int32) (x2 : Int32) (h : Mm) : Option (Int32 × Mm) := (if x1 = (7) then (X12_all_112 n n x1 x2 (0) h) else (X12_all_154 n x1 x2 h))
set_option maxRecDepth 100000 in
set_option maxHeartbeats 4000000 in
theorem v_X12_all_104 {X : WX} {G : GX} {o : Mm} {n : Nat} {rv : Int32} {hz : Mm} {x1 : Int32} {x2 : Int32} {h : Mm} (hF : X12_all_104 n x1 x2 h = some (rv, hz)) : V X G RX12 cX12_all 5 (some .int) 4 0 0 (QR X G false o (some (.int rv)) hz) false o 104 [(0, .ref (xa X 251)), (1, .int x1), (2, .int x2)] [] h := by
  unfold X12_all_104 at hF
  refine V.iload_n 1 dX12_all_104 rfl rfl ?_
  refine V.bipush (v := 7) dX12_all_105 (by decide) ?_
  refine V.icmp_ne (tgt := 154) dX12_all_107 rfl (fun c => ?_) (fun c => ?_)
  · replace hF := (if_neg c).symm.trans hF
    exact (v_X12_all_154 hF)
  · replace hF := (if_pos c).symm.trans hF
    refine V.iconst (v := 0) dX12_all_110 rfl ?_
    refine V.istore_n [(3, _), (0, _), (1, _), (2, _)] dX12_all_111 rfl (by decide) rfl ?_
    exact V.sub [1, 2, 3, 0] rfl (v_X12_all_112 n _ _ _ _ hF)
def X12_all_71 (n : Nat) : Nat → Int32 → Int32 → Int32 → Mm → Option (Int32 × Mm)
  | 0, _, _, _, _ => none
  | f + 1, x1, x2, x3, h => (if (4) ≤ x3 then (X12_all_104 n x1 x2 h) else (if inB ((18) + x3) (aln 264) then (if (h.1 264 ((18) + x3).toNatClampNeg) = 0 then (X12_all_96 n (X12_all_71 n f) x1 x3 x2 ((1) <<< (x3 &&& 31)) h) else (X12_all_96 n (X12_all_71 n f) x1 x3 x2 (0) h)) else none))
set_option maxRecDepth 100000 in
set_option maxHeartbeats 4000000 in
theorem v_X12_all_71 {X : WX} {G : GX} {o : Mm} {n : Nat} {rv : Int32} {hz : Mm} : ∀ (f : Nat) (x1 : Int32) (x2 : Int32) (x3 : Int32) (h : Mm), X12_all_71 n f x1 x2 x3 h = some (rv, hz) → V X G RX12 cX12_all 5 (some .int) 4 0 0 (QR X G false o (some (.int rv)) hz) false o 71 [(0, .ref (xa X 251)), (1, .int x1), (2, .int x2), (3, .int x3)] [] h := by
  intro f
  induction f with
  | zero => intro x1 x2 x3 h hF; exact nomatch (show (none : Option (Int32 × Mm)) = some (rv, hz) from hF)
  | succ f ih =>
    intro x1 x2 x3 h hF
    unfold X12_all_71 at hF
    refine V.iload_n 3 dX12_all_71 rfl rfl ?_
    refine V.iconst (v := 4) dX12_all_72 rfl ?_
    refine V.icmp_ge (tgt := 104) dX12_all_73 rfl (fun c => ?_) (fun c => ?_)
    · replace hF := (if_pos c).symm.trans hF
      exact V.sub [0, 1, 2] rfl (v_X12_all_104 hF)
    · replace hF := (if_neg c).symm.trans hF
      refine V.iload_n 2 dX12_all_76 rfl rfl ?_
      refine V.aload_n 0 dX12_all_77 rfl rfl ?_
      refine V.getR (v := 264) fl_X12_61 sh_251 rfl fx_251_32 (by decide) dX12_all_78 ?_
      refine V.bipush (v := 18) dX12_all_81 (by decide) ?_
      refine V.iload_n 3 dX12_all_83 rfl rfl ?_
      refine V.iadd dX12_all_84 ?_
      obtain ⟨hk, hF⟩ := ck hF
      refine V.iald io_264 hk dX12_all_85 ?_
      refine V.if_ne (tgt := 95) dX12_all_86 rfl (fun c => ?_) (fun c => ?_)
      · replace hF := (if_neg c).symm.trans hF
        refine V.iconst (v := 0) dX12_all_95 rfl ?_
        exact V.sub [0, 1, 3] rfl (v_X12_all_96 ih hF)
      · replace hF := (if_pos c).symm.trans hF
        refine V.iconst (v := 1) dX12_all_89 rfl ?_
        refine V.iload_n 3 dX12_all_90 rfl rfl ?_
        refine V.ishl dX12_all_91 ?_
        refine V.goto (tgt := 96) dX12_all_92 rfl ?_
        exact V.sub [0, 1, 3] rfl (v_X12_all_96 ih hF)
def X12_all (n : Nat) (x1 : Int32) (h : Mm) : Option (Int32 × Mm) := (if ((wI h 251 0 (0)).1 251 27) = 0 then (some ((-1), (wI h 251 0 (0)))) else (bp (X12_isIn x1.toInt64 (0 : Int64) (7 : Int64) (wI h 251 0 (0))) (fun r81 => (if r81 = true then (if x1 = (1) then (if inB (22) (aln 264) then (bp (X12_isEnough ((wI h 251 0 (0)).1 264 (22).toNatClampNeg) (wI h 251 0 (0))) (fun r85 => (if r85 = true then (some ((1), (wI h 251 0 (0)))) else (some ((0), (wI h 251 0 (0))))))) else none) else (if x1 = (5) then (bp (X12_longest n (wI h 251 0 (0))) (fun r83 => (some (r83, (wI h 251 0 (0)))))) else (if x1 = (6) then (X12_all_71 n n x1 (0) (0) (wI h 251 0 (0))) else (X12_all_104 n x1 (0) (wI h 251 0 (0)))))) else (some ((-1), (wI h 251 0 (0))))))))
set_option maxRecDepth 100000 in
set_option maxHeartbeats 4000000 in
theorem s_X12_all {X : WX} {o : Mm} {n : Nat} {x1 : Int32} {rv : Int32} {hz : Mm} {h : Mm} (hF : X12_all n x1 h = some (rv, hz)) : Sat X yX12_all cX12_all 5 (some .int) 4 [.ref (xa X 251), .int x1] false o h (some (.int rv)) hz := by
  unfold X12_all at hF
  refine Sat.mk (own := RX12) rfl (by decide +kernel) (Nat.le_of_ble_eq_true rfl) (fun G => ?_)
  refine V.sub (lv2 := [(0, _), (1, _)]) [0, 1] rfl ?_
  refine V.aload_n 0 dX12_all_0 rfl rfl ?_
  refine V.iconst (v := 0) dX12_all_1 rfl ?_
  refine V.putI fl_X12_93 rfl (tyX12_ok 0 (by decide)) rfl rfl sh_251 rfl km_251 dX12_all_2 ?_
  refine V.aload_n 0 dX12_all_5 rfl rfl ?_
  refine V.getI fl_X12_291 sh_251 rfl km_251 dX12_all_6 ?_
  refine V.if_eq (tgt := 24) dX12_all_9 rfl (fun c => ?_) (fun c => ?_)
  · replace hF := (if_pos c).symm.trans hF
    refine V.iconst (v := -1) dX12_all_24 rfl ?_
    cases hF
    exact V.iret dX12_all_25
  · replace hF := (if_neg c).symm.trans hF
    refine V.iload_n 1 dX12_all_12 rfl rfl ?_
    refine V.i2l dX12_all_13 ?_
    refine V.lconst (v := 0) dX12_all_14 rfl ?_
    refine V.ldc2 (v := 7) dX12_all_15 kc_X12_467 ?_
    obtain ⟨r81, hc82, hF⟩ := bp_s hF
    refine V.callSi mf_X12_isIn ml_X12_214 (s_X12_isIn hc82) (by decide) rfl rfl (Nat.le_of_ble_eq_true rfl) dX12_all_18 ?_
    refine V.ifz_ne (tgt := 26) dX12_all_21 rfl (fun c => ?_) (fun c => ?_)
    · replace hF := (if_pos c).symm.trans hF
      refine V.iload_n 1 dX12_all_26 rfl rfl ?_
      refine V.iconst (v := 1) dX12_all_27 rfl ?_
      refine V.icmp_ne (tgt := 51) dX12_all_28 rfl (fun c => ?_) (fun c => ?_)
      · replace hF := (if_neg c).symm.trans hF
        refine V.iload_n 1 dX12_all_51 rfl rfl ?_
        refine V.iconst (v := 5) dX12_all_52 rfl ?_
        refine V.icmp_ne (tgt := 61) dX12_all_53 rfl (fun c => ?_) (fun c => ?_)
        · replace hF := (if_neg c).symm.trans hF
          refine V.iconst (v := 0) dX12_all_61 rfl ?_
          refine V.istore_n [(2, _), (0, _), (1, _)] dX12_all_62 rfl (by decide) rfl ?_
          refine V.iload_n 2 dX12_all_63 rfl rfl ?_
          refine V.bipush (v := 6) dX12_all_64 (by decide) ?_
          refine V.icmp_ne (tgt := 104) dX12_all_66 rfl (fun c => ?_) (fun c => ?_)
          · replace hF := (if_neg c).symm.trans hF
            exact V.sub [1, 2, 0] rfl (v_X12_all_104 hF)
          · replace hF := (if_pos c).symm.trans hF
            refine V.iconst (v := 0) dX12_all_69 rfl ?_
            refine V.istore_n [(3, _), (2, _), (0, _), (1, _)] dX12_all_70 rfl (by decide) rfl ?_
            exact V.sub [2, 3, 1, 0] rfl (v_X12_all_71 n _ _ _ _ hF)
        · replace hF := (if_pos c).symm.trans hF
          refine V.aload_n 0 dX12_all_56 rfl rfl ?_
          obtain ⟨r83, hc84, hF⟩ := bp_s hF
          refine V.callVi mf_X12_longest ml_X12_469 sh_251 (s_X12_longest hc84) (by decide) rfl rfl (Nat.le_of_ble_eq_true rfl) dX12_all_57 ?_
          cases hF
          exact V.iret dX12_all_60
      · replace hF := (if_pos c).symm.trans hF
        refine V.aload_n 0 dX12_all_31 rfl rfl ?_
        refine V.aload_n 0 dX12_all_32 rfl rfl ?_
        refine V.getR (v := 264) fl_X12_61 sh_251 rfl fx_251_32 (by decide) dX12_all_33 ?_
        refine V.bipush (v := 22) dX12_all_36 (by decide) ?_
        obtain ⟨hk, hF⟩ := ck hF
        refine V.iald io_264 hk dX12_all_38 ?_
        obtain ⟨r85, hc86, hF⟩ := bp_s hF
        refine V.callVi mf_X12_isEnough ml_X12_340 sh_251 (s_X12_isEnough hc86) (by decide) rfl rfl (Nat.le_of_ble_eq_true rfl) dX12_all_39 ?_
        refine V.ifz_eq (tgt := 49) dX12_all_42 rfl (fun c => ?_) (fun c => ?_)
        · replace hF := (if_neg c).symm.trans hF
          refine V.iconst (v := 0) dX12_all_49 rfl ?_
          cases hF
          exact V.iret dX12_all_50
        · replace hF := (if_pos c).symm.trans hF
          refine V.iconst (v := 1) dX12_all_45 rfl ?_
          refine V.goto (tgt := 50) dX12_all_46 rfl ?_
          cases hF
          exact V.iret dX12_all_50
    · replace hF := (if_neg c).symm.trans hF
      refine V.iconst (v := -1) dX12_all_24 rfl ?_
      cases hF
      exact V.iret dX12_all_25
/-! MonsterCotModel.pages -/
theorem dX12_pages_0 : decode cX12_pages 0 = .ok (.aload_n 0, 1) := by decide +kernel
theorem dX12_pages_1 : decode cX12_pages 1 = .ok (.iconst 0, 1) := by decide +kernel
theorem dX12_pages_2 : decode cX12_pages 2 = .ok (.putfield 93, 3) := by decide +kernel
theorem dX12_pages_5 : decode cX12_pages 5 = .ok (.aload_n 0, 1) := by decide +kernel
theorem dX12_pages_6 : decode cX12_pages 6 = .ok (.getfield 291, 3) := by decide +kernel
theorem dX12_pages_9 : decode cX12_pages 9 = .ok (.ifCond .eq 15, 3) := by decide +kernel
theorem dX12_pages_12 : decode cX12_pages 12 = .ok (.iload_n 1, 1) := by decide +kernel
theorem dX12_pages_13 : decode cX12_pages 13 = .ok (.i2l, 1) := by decide +kernel
theorem dX12_pages_14 : decode cX12_pages 14 = .ok (.lconst 0, 1) := by decide +kernel
theorem dX12_pages_15 : decode cX12_pages 15 = .ok (.ldc2_w 346, 3) := by decide +kernel
theorem dX12_pages_18 : decode cX12_pages 18 = .ok (.invokestatic 214, 3) := by decide +kernel
theorem dX12_pages_21 : decode cX12_pages 21 = .ok (.ifCond .ne 5, 3) := by decide +kernel
theorem dX12_pages_24 : decode cX12_pages 24 = .ok (.iconst (-1), 1) := by decide +kernel
theorem dX12_pages_25 : decode cX12_pages 25 = .ok (.ireturn, 1) := by decide +kernel
theorem dX12_pages_26 : decode cX12_pages 26 = .ok (.iconst 0, 1) := by decide +kernel
theorem dX12_pages_27 : decode cX12_pages 27 = .ok (.istore_n 2, 1) := by decide +kernel
theorem dX12_pages_28 : decode cX12_pages 28 = .ok (.iconst 0, 1) := by decide +kernel
theorem dX12_pages_29 : decode cX12_pages 29 = .ok (.istore_n 3, 1) := by decide +kernel
theorem dX12_pages_30 : decode cX12_pages 30 = .ok (.iload_n 3, 1) := by decide +kernel
theorem dX12_pages_31 : decode cX12_pages 31 = .ok (.aload_n 0, 1) := by decide +kernel
theorem dX12_pages_32 : decode cX12_pages 32 = .ok (.getfield 288, 3) := by decide +kernel
theorem dX12_pages_35 : decode cX12_pages 35 = .ok (.if_icmp .ge 30, 3) := by decide +kernel
theorem dX12_pages_38 : decode cX12_pages 38 = .ok (.iload_n 2, 1) := by decide +kernel
theorem dX12_pages_39 : decode cX12_pages 39 = .ok (.aload_n 0, 1) := by decide +kernel
theorem dX12_pages_40 : decode cX12_pages 40 = .ok (.iload_n 3, 1) := by decide +kernel
theorem dX12_pages_41 : decode cX12_pages 41 = .ok (.invokevirtual 328, 3) := by decide +kernel
theorem dX12_pages_44 : decode cX12_pages 44 = .ok (.iload_n 1, 1) := by decide +kernel
theorem dX12_pages_45 : decode cX12_pages 45 = .ok (.if_icmp .ne 11, 3) := by decide +kernel
theorem dX12_pages_48 : decode cX12_pages 48 = .ok (.aload_n 0, 1) := by decide +kernel
theorem dX12_pages_49 : decode cX12_pages 49 = .ok (.iload_n 3, 1) := by decide +kernel
theorem dX12_pages_50 : decode cX12_pages 50 = .ok (.invokevirtual 322, 3) := by decide +kernel
theorem dX12_pages_53 : decode cX12_pages 53 = .ok (.goto 4, 3) := by decide +kernel
theorem dX12_pages_56 : decode cX12_pages 56 = .ok (.iconst 0, 1) := by decide +kernel
theorem dX12_pages_57 : decode cX12_pages 57 = .ok (.iadd, 1) := by decide +kernel
theorem dX12_pages_58 : decode cX12_pages 58 = .ok (.istore_n 2, 1) := by decide +kernel
theorem dX12_pages_59 : decode cX12_pages 59 = .ok (.iinc 3 1, 3) := by decide +kernel
theorem dX12_pages_62 : decode cX12_pages 62 = .ok (.goto (-32), 3) := by decide +kernel
theorem dX12_pages_65 : decode cX12_pages 65 = .ok (.iload_n 2, 1) := by decide +kernel
theorem dX12_pages_66 : decode cX12_pages 66 = .ok (.ireturn, 1) := by decide +kernel
def X12_pages_57 (n : Nat) (K30 : Int32 → Int32 → Int32 → Mm → Option (Int32 × Mm)) (x1 : Int32) (x3 : Int32) (s0 : Int32) (s1 : Int32) (h : Mm) : Option (Int32 × Mm) := (K30 x1 (s0 + s1) (x3 + (1)) h)
set_option maxRecDepth 100000 in
set_option maxHeartbeats 4000000 in
theorem v_X12_pages_57 {X : WX} {G : GX} {o : Mm} {n : Nat} {K30 : Int32 → Int32 → Int32 → Mm → Option (Int32 × Mm)} {rv : Int32} {hz : Mm} (hK30 : ∀ (x1 : Int32) (x2 : Int32) (x3 : Int32) (h : Mm), K30 x1 x2 x3 h = some (rv, hz) → V X G RX12 cX12_pages 4 (some .int) 2 0 0 (QR X G false o (some (.int rv)) hz) false o 30 [(0, .ref (xa X 251)), (1, .int x1), (2, .int x2), (3, .int x3)] [] h) {x1 : Int32} {x3 : Int32} {s0 : Int32} {s1 : Int32} {h : Mm} (hF : X12_pages_57 n K30 x1 x3 s0 s1 h = some (rv, hz)) : V X G RX12 cX12_pages 4 (some .int) 2 0 0 (QR X G false o (some (.int rv)) hz) false o 57 [(0, .ref (xa X 251)), (1, .int x1), (3, .int x3)] [.int s1, .int s0] h := by
  unfold X12_pages_57 at hF
  refine V.iadd dX12_pages_57 ?_
  refine V.istore_n [(2, _), (0, _), (1, _), (3, _)] dX12_pages_58 rfl (by decide) rfl ?_
  refine V.iinc (v := (x3 + (1))) 3 [(3, _), (2, _), (0, _), (1, _)] dX12_pages_59 rfl rfl (by decide) rfl ?_
  refine V.goto (tgt := 30) dX12_pages_62 rfl ?_
  exact V.sub [2, 3, 1, 0] rfl (hK30 _ _ _ _ hF)
def X12_pages_30 (n : Nat) : Nat → Int32 → Int32 → Int32 → Mm → Option (Int32 × Mm)
  | 0, _, _, _, _ => none
  | f + 1, x1, x2, x3, h => (if (h.1 251 26) ≤ x3 then (some (x2, h)) else (bp (X12_kindOf x3 h) (fun r25 => (if r25 = x1 then (bp (X12_pagesOf x3 h) (fun r27 => (X12_pages_57 n (X12_pages_30 n f) x1 x3 x2 r27 h))) else (X12_pages_57 n (X12_pages_30 n f) x1 x3 x2 (0) h)))))
set_option maxRecDepth 100000 in
set_option maxHeartbeats 4000000 in
theorem v_X12_pages_30 {X : WX} {G : GX} {o : Mm} {n : Nat} {rv : Int32} {hz : Mm} : ∀ (f : Nat) (x1 : Int32) (x2 : Int32) (x3 : Int32) (h : Mm), X12_pages_30 n f x1 x2 x3 h = some (rv, hz) → V X G RX12 cX12_pages 4 (some .int) 2 0 0 (QR X G false o (some (.int rv)) hz) false o 30 [(0, .ref (xa X 251)), (1, .int x1), (2, .int x2), (3, .int x3)] [] h := by
  intro f
  induction f with
  | zero => intro x1 x2 x3 h hF; exact nomatch (show (none : Option (Int32 × Mm)) = some (rv, hz) from hF)
  | succ f ih =>
    intro x1 x2 x3 h hF
    unfold X12_pages_30 at hF
    refine V.iload_n 3 dX12_pages_30 rfl rfl ?_
    refine V.aload_n 0 dX12_pages_31 rfl rfl ?_
    refine V.getI fl_X12_288 sh_251 rfl km_251 dX12_pages_32 ?_
    refine V.icmp_ge (tgt := 65) dX12_pages_35 rfl (fun c => ?_) (fun c => ?_)
    · replace hF := (if_pos c).symm.trans hF
      refine V.iload_n 2 dX12_pages_65 rfl rfl ?_
      cases hF
      exact V.iret dX12_pages_66
    · replace hF := (if_neg c).symm.trans hF
      refine V.iload_n 2 dX12_pages_38 rfl rfl ?_
      refine V.aload_n 0 dX12_pages_39 rfl rfl ?_
      refine V.iload_n 3 dX12_pages_40 rfl rfl ?_
      obtain ⟨r25, hc26, hF⟩ := bp_s hF
      refine V.callVi mf_X12_kindOf ml_X12_328 sh_251 (s_X12_kindOf hc26) (by decide) rfl rfl (Nat.le_of_ble_eq_true rfl) dX12_pages_41 ?_
      refine V.iload_n 1 dX12_pages_44 rfl rfl ?_
      refine V.icmp_ne (tgt := 56) dX12_pages_45 rfl (fun c => ?_) (fun c => ?_)
      · replace hF := (if_neg c).symm.trans hF
        refine V.iconst (v := 0) dX12_pages_56 rfl ?_
        exact V.sub [0, 1, 3] rfl (v_X12_pages_57 ih hF)
      · replace hF := (if_pos c).symm.trans hF
        refine V.aload_n 0 dX12_pages_48 rfl rfl ?_
        refine V.iload_n 3 dX12_pages_49 rfl rfl ?_
        obtain ⟨r27, hc28, hF⟩ := bp_s hF
        refine V.callVi mf_X12_pagesOf ml_X12_322 sh_251 (s_X12_pagesOf hc28) (by decide) rfl rfl (Nat.le_of_ble_eq_true rfl) dX12_pages_50 ?_
        refine V.goto (tgt := 57) dX12_pages_53 rfl ?_
        exact V.sub [0, 1, 3] rfl (v_X12_pages_57 ih hF)
def X12_pages (n : Nat) (x1 : Int32) (h : Mm) : Option (Int32 × Mm) := (if ((wI h 251 0 (0)).1 251 27) = 0 then (some ((-1), (wI h 251 0 (0)))) else (bp (X12_isIn x1.toInt64 (0 : Int64) (3 : Int64) (wI h 251 0 (0))) (fun r29 => (if r29 = true then (X12_pages_30 n n x1 (0) (0) (wI h 251 0 (0))) else (some ((-1), (wI h 251 0 (0))))))))
set_option maxRecDepth 100000 in
set_option maxHeartbeats 4000000 in
theorem s_X12_pages {X : WX} {o : Mm} {n : Nat} {x1 : Int32} {rv : Int32} {hz : Mm} {h : Mm} (hF : X12_pages n x1 h = some (rv, hz)) : Sat X yX12_pages cX12_pages 4 (some .int) 2 [.ref (xa X 251), .int x1] false o h (some (.int rv)) hz := by
  unfold X12_pages at hF
  refine Sat.mk (own := RX12) rfl (by decide +kernel) (Nat.le_of_ble_eq_true rfl) (fun G => ?_)
  refine V.sub (lv2 := [(0, _), (1, _)]) [0, 1] rfl ?_
  refine V.aload_n 0 dX12_pages_0 rfl rfl ?_
  refine V.iconst (v := 0) dX12_pages_1 rfl ?_
  refine V.putI fl_X12_93 rfl (tyX12_ok 0 (by decide)) rfl rfl sh_251 rfl km_251 dX12_pages_2 ?_
  refine V.aload_n 0 dX12_pages_5 rfl rfl ?_
  refine V.getI fl_X12_291 sh_251 rfl km_251 dX12_pages_6 ?_
  refine V.if_eq (tgt := 24) dX12_pages_9 rfl (fun c => ?_) (fun c => ?_)
  · replace hF := (if_pos c).symm.trans hF
    refine V.iconst (v := -1) dX12_pages_24 rfl ?_
    cases hF
    exact V.iret dX12_pages_25
  · replace hF := (if_neg c).symm.trans hF
    refine V.iload_n 1 dX12_pages_12 rfl rfl ?_
    refine V.i2l dX12_pages_13 ?_
    refine V.lconst (v := 0) dX12_pages_14 rfl ?_
    refine V.ldc2 (v := 3) dX12_pages_15 kc_X12_346 ?_
    obtain ⟨r29, hc30, hF⟩ := bp_s hF
    refine V.callSi mf_X12_isIn ml_X12_214 (s_X12_isIn hc30) (by decide) rfl rfl (Nat.le_of_ble_eq_true rfl) dX12_pages_18 ?_
    refine V.ifz_ne (tgt := 26) dX12_pages_21 rfl (fun c => ?_) (fun c => ?_)
    · replace hF := (if_pos c).symm.trans hF
      refine V.iconst (v := 0) dX12_pages_26 rfl ?_
      refine V.istore_n [(2, _), (0, _), (1, _)] dX12_pages_27 rfl (by decide) rfl ?_
      refine V.iconst (v := 0) dX12_pages_28 rfl ?_
      refine V.istore_n [(3, _), (2, _), (0, _), (1, _)] dX12_pages_29 rfl (by decide) rfl ?_
      exact V.sub [2, 3, 1, 0] rfl (v_X12_pages_30 n _ _ _ _ hF)
    · replace hF := (if_neg c).symm.trans hF
      refine V.iconst (v := -1) dX12_pages_24 rfl ?_
      cases hF
      exact V.iret dX12_pages_25
/-! MonsterCotModel.left -/
theorem dX12_left_0 : decode cX12_left 0 = .ok (.aload_n 0, 1) := by decide +kernel
theorem dX12_left_1 : decode cX12_left 1 = .ok (.iconst 0, 1) := by decide +kernel
theorem dX12_left_2 : decode cX12_left 2 = .ok (.putfield 93, 3) := by decide +kernel
theorem dX12_left_5 : decode cX12_left 5 = .ok (.aload_n 0, 1) := by decide +kernel
theorem dX12_left_6 : decode cX12_left 6 = .ok (.iload_n 1, 1) := by decide +kernel
theorem dX12_left_7 : decode cX12_left 7 = .ok (.invokevirtual 337, 3) := by decide +kernel
theorem dX12_left_10 : decode cX12_left 10 = .ok (.ifCond .eq 22, 3) := by decide +kernel
theorem dX12_left_13 : decode cX12_left 13 = .ok (.aload_n 0, 1) := by decide +kernel
theorem dX12_left_14 : decode cX12_left 14 = .ok (.iload_n 1, 1) := by decide +kernel
theorem dX12_left_15 : decode cX12_left 15 = .ok (.invokevirtual 325, 3) := by decide +kernel
theorem dX12_left_18 : decode cX12_left 18 = .ok (.aload_n 0, 1) := by decide +kernel
theorem dX12_left_19 : decode cX12_left 19 = .ok (.getfield 61, 3) := by decide +kernel
theorem dX12_left_22 : decode cX12_left 22 = .ok (.iconst 3, 1) := by decide +kernel
theorem dX12_left_23 : decode cX12_left 23 = .ok (.iload_n 1, 1) := by decide +kernel
theorem dX12_left_24 : decode cX12_left 24 = .ok (.imul, 1) := by decide +kernel
theorem dX12_left_25 : decode cX12_left 25 = .ok (.iconst 0, 1) := by decide +kernel
theorem dX12_left_26 : decode cX12_left 26 = .ok (.iadd, 1) := by decide +kernel
theorem dX12_left_27 : decode cX12_left 27 = .ok (.iaload, 1) := by decide +kernel
theorem dX12_left_28 : decode cX12_left 28 = .ok (.isub, 1) := by decide +kernel
theorem dX12_left_29 : decode cX12_left 29 = .ok (.goto 4, 3) := by decide +kernel
theorem dX12_left_32 : decode cX12_left 32 = .ok (.iconst (-1), 1) := by decide +kernel
theorem dX12_left_33 : decode cX12_left 33 = .ok (.ireturn, 1) := by decide +kernel
def X12_left (x1 : Int32) (h : Mm) : Option (Int32 × Mm) := (bp (X12_isHouse x1 (wI h 251 0 (0))) (fun r5 => (if r5 = true then (bp (X12_strength x1 (wI h 251 0 (0))) (fun r7 => (if inB (((3) * x1) + (0)) (aln 264) then (some ((r7 - ((wI h 251 0 (0)).1 264 (((3) * x1) + (0)).toNatClampNeg)), (wI h 251 0 (0)))) else none))) else (some ((-1), (wI h 251 0 (0)))))))
set_option maxRecDepth 100000 in
set_option maxHeartbeats 4000000 in
theorem s_X12_left {X : WX} {o : Mm} {x1 : Int32} {rv : Int32} {hz : Mm} {h : Mm} (hF : X12_left x1 h = some (rv, hz)) : Sat X yX12_left cX12_left 2 (some .int) 2 [.ref (xa X 251), .int x1] false o h (some (.int rv)) hz := by
  unfold X12_left at hF
  refine Sat.mk (own := RX12) rfl (by decide +kernel) (Nat.le_of_ble_eq_true rfl) (fun G => ?_)
  refine V.sub (lv2 := [(0, _), (1, _)]) [0, 1] rfl ?_
  refine V.aload_n 0 dX12_left_0 rfl rfl ?_
  refine V.iconst (v := 0) dX12_left_1 rfl ?_
  refine V.putI fl_X12_93 rfl (tyX12_ok 0 (by decide)) rfl rfl sh_251 rfl km_251 dX12_left_2 ?_
  refine V.aload_n 0 dX12_left_5 rfl rfl ?_
  refine V.iload_n 1 dX12_left_6 rfl rfl ?_
  obtain ⟨r5, hc6, hF⟩ := bp_s hF
  refine V.callVi mf_X12_isHouse ml_X12_337 sh_251 (s_X12_isHouse hc6) (by decide) rfl rfl (Nat.le_of_ble_eq_true rfl) dX12_left_7 ?_
  refine V.ifz_eq (tgt := 32) dX12_left_10 rfl (fun c => ?_) (fun c => ?_)
  · replace hF := (if_neg c).symm.trans hF
    refine V.iconst (v := -1) dX12_left_32 rfl ?_
    cases hF
    exact V.iret dX12_left_33
  · replace hF := (if_pos c).symm.trans hF
    refine V.aload_n 0 dX12_left_13 rfl rfl ?_
    refine V.iload_n 1 dX12_left_14 rfl rfl ?_
    obtain ⟨r7, hc8, hF⟩ := bp_s hF
    refine V.callVi mf_X12_strength ml_X12_325 sh_251 (s_X12_strength hc8) (by decide) rfl rfl (Nat.le_of_ble_eq_true rfl) dX12_left_15 ?_
    refine V.aload_n 0 dX12_left_18 rfl rfl ?_
    refine V.getR (v := 264) fl_X12_61 sh_251 rfl fx_251_32 (by decide) dX12_left_19 ?_
    refine V.iconst (v := 3) dX12_left_22 rfl ?_
    refine V.iload_n 1 dX12_left_23 rfl rfl ?_
    refine V.imul dX12_left_24 ?_
    refine V.iconst (v := 0) dX12_left_25 rfl ?_
    refine V.iadd dX12_left_26 ?_
    obtain ⟨hk, hF⟩ := ck hF
    refine V.iald io_264 hk dX12_left_27 ?_
    refine V.isub dX12_left_28 ?_
    refine V.goto (tgt := 33) dX12_left_29 rfl ?_
    cases hF
    exact V.iret dX12_left_33
/-! MonsterCotModel.image -/
theorem dX12_image_0 : decode cX12_image 0 = .ok (.aload_n 0, 1) := by decide +kernel
theorem dX12_image_1 : decode cX12_image 1 = .ok (.iconst 0, 1) := by decide +kernel
theorem dX12_image_2 : decode cX12_image 2 = .ok (.putfield 93, 3) := by decide +kernel
theorem dX12_image_5 : decode cX12_image 5 = .ok (.aload_n 0, 1) := by decide +kernel
theorem dX12_image_6 : decode cX12_image 6 = .ok (.getfield 291, 3) := by decide +kernel
theorem dX12_image_9 : decode cX12_image 9 = .ok (.ifCond .ne 5, 3) := by decide +kernel
theorem dX12_image_12 : decode cX12_image 12 = .ok (.iconst (-1), 1) := by decide +kernel
theorem dX12_image_13 : decode cX12_image 13 = .ok (.ireturn, 1) := by decide +kernel
theorem dX12_image_14 : decode cX12_image 14 = .ok (.iconst 0, 1) := by decide +kernel
theorem dX12_image_15 : decode cX12_image 15 = .ok (.istore_n 1, 1) := by decide +kernel
theorem dX12_image_16 : decode cX12_image 16 = .ok (.iload_n 1, 1) := by decide +kernel
theorem dX12_image_17 : decode cX12_image 17 = .ok (.sipush 211, 3) := by decide +kernel
theorem dX12_image_20 : decode cX12_image 20 = .ok (.if_icmp .ge 21, 3) := by decide +kernel
theorem dX12_image_23 : decode cX12_image 23 = .ok (.aload_n 0, 1) := by decide +kernel
theorem dX12_image_24 : decode cX12_image 24 = .ok (.getfield 90, 3) := by decide +kernel
theorem dX12_image_27 : decode cX12_image 27 = .ok (.iload_n 1, 1) := by decide +kernel
theorem dX12_image_28 : decode cX12_image 28 = .ok (.aload_n 0, 1) := by decide +kernel
theorem dX12_image_29 : decode cX12_image 29 = .ok (.getfield 61, 3) := by decide +kernel
theorem dX12_image_32 : decode cX12_image 32 = .ok (.iload_n 1, 1) := by decide +kernel
theorem dX12_image_33 : decode cX12_image 33 = .ok (.iaload, 1) := by decide +kernel
theorem dX12_image_34 : decode cX12_image 34 = .ok (.iastore, 1) := by decide +kernel
theorem dX12_image_35 : decode cX12_image 35 = .ok (.iinc 1 1, 3) := by decide +kernel
theorem dX12_image_38 : decode cX12_image 38 = .ok (.goto (-22), 3) := by decide +kernel
theorem dX12_image_41 : decode cX12_image 41 = .ok (.aload_n 0, 1) := by decide +kernel
theorem dX12_image_42 : decode cX12_image 42 = .ok (.iconst 1, 1) := by decide +kernel
theorem dX12_image_43 : decode cX12_image 43 = .ok (.putfield 300, 3) := by decide +kernel
theorem dX12_image_46 : decode cX12_image 46 = .ok (.aload_n 0, 1) := by decide +kernel
theorem dX12_image_47 : decode cX12_image 47 = .ok (.getfield 61, 3) := by decide +kernel
theorem dX12_image_50 : decode cX12_image 50 = .ok (.bipush 29, 2) := by decide +kernel
theorem dX12_image_52 : decode cX12_image 52 = .ok (.iaload, 1) := by decide +kernel
theorem dX12_image_53 : decode cX12_image 53 = .ok (.ireturn, 1) := by decide +kernel
def X12_image_16 (n : Nat) : Nat → Int32 → Mm → Option (Int32 × Mm)
  | 0, _, _ => none
  | f + 1, x1, h => (if (211) ≤ x1 then (if inB (29) (aln 264) then (some (((wI h 251 50 (1)).1 264 (29).toNatClampNeg), (wI h 251 50 (1)))) else none) else (if inB x1 (aln 264) then (if inB x1 (aln 272) then ((X12_image_16 n f) (x1 + (1)) (wI h 272 x1.toNatClampNeg (h.1 264 x1.toNatClampNeg))) else none) else none))
set_option maxRecDepth 100000 in
set_option maxHeartbeats 4000000 in
theorem v_X12_image_16 {X : WX} {G : GX} {o : Mm} {n : Nat} {rv : Int32} {hz : Mm} : ∀ (f : Nat) (x1 : Int32) (h : Mm), X12_image_16 n f x1 h = some (rv, hz) → V X G RX12 cX12_image 2 (some .int) 1 0 0 (QR X G false o (some (.int rv)) hz) false o 16 [(0, .ref (xa X 251)), (1, .int x1)] [] h := by
  intro f
  induction f with
  | zero => intro x1 h hF; exact nomatch (show (none : Option (Int32 × Mm)) = some (rv, hz) from hF)
  | succ f ih =>
    intro x1 h hF
    unfold X12_image_16 at hF
    refine V.iload_n 1 dX12_image_16 rfl rfl ?_
    refine V.sipush (v := 211) dX12_image_17 (by decide) ?_
    refine V.icmp_ge (tgt := 41) dX12_image_20 rfl (fun c => ?_) (fun c => ?_)
    · replace hF := (if_pos c).symm.trans hF
      refine V.aload_n 0 dX12_image_41 rfl rfl ?_
      refine V.iconst (v := 1) dX12_image_42 rfl ?_
      refine V.putI fl_X12_300 rfl (tyX12_ok 50 (by decide)) rfl rfl sh_251 rfl km_251 dX12_image_43 ?_
      refine V.aload_n 0 dX12_image_46 rfl rfl ?_
      refine V.getR (v := 264) fl_X12_61 sh_251 rfl fx_251_32 (by decide) dX12_image_47 ?_
      refine V.bipush (v := 29) dX12_image_50 (by decide) ?_
      obtain ⟨hk, hF⟩ := ck hF
      refine V.iald io_264 hk dX12_image_52 ?_
      cases hF
      exact V.iret dX12_image_53
    · replace hF := (if_neg c).symm.trans hF
      refine V.aload_n 0 dX12_image_23 rfl rfl ?_
      refine V.getR (v := 272) fl_X12_90 sh_251 rfl fx_251_49 (by decide) dX12_image_24 ?_
      refine V.iload_n 1 dX12_image_27 rfl rfl ?_
      refine V.aload_n 0 dX12_image_28 rfl rfl ?_
      refine V.getR (v := 264) fl_X12_61 sh_251 rfl fx_251_32 (by decide) dX12_image_29 ?_
      refine V.iload_n 1 dX12_image_32 rfl rfl ?_
      obtain ⟨hk, hF⟩ := ck hF
      refine V.iald io_264 hk dX12_image_33 ?_
      obtain ⟨hk, hF⟩ := ck hF
      refine V.iast io_272 hk dX12_image_34 ?_
      refine V.iinc (v := (x1 + (1))) 1 [(1, _), (0, _)] dX12_image_35 rfl rfl (by decide) rfl ?_
      refine V.goto (tgt := 16) dX12_image_38 rfl ?_
      exact V.sub [1, 0] rfl (ih _ _ hF)
def X12_image (n : Nat) (h : Mm) : Option (Int32 × Mm) := (if ((wI h 251 0 (0)).1 251 27) = 0 then (some ((-1), (wI h 251 0 (0)))) else (X12_image_16 n n (0) (wI h 251 0 (0))))
set_option maxRecDepth 100000 in
set_option maxHeartbeats 4000000 in
theorem s_X12_image {X : WX} {o : Mm} {n : Nat} {rv : Int32} {hz : Mm} {h : Mm} (hF : X12_image n h = some (rv, hz)) : Sat X yX12_image cX12_image 2 (some .int) 1 [.ref (xa X 251)] false o h (some (.int rv)) hz := by
  unfold X12_image at hF
  refine Sat.mk (own := RX12) rfl (by decide +kernel) (Nat.le_of_ble_eq_true rfl) (fun G => ?_)
  refine V.sub (lv2 := [(0, _)]) [0] rfl ?_
  refine V.aload_n 0 dX12_image_0 rfl rfl ?_
  refine V.iconst (v := 0) dX12_image_1 rfl ?_
  refine V.putI fl_X12_93 rfl (tyX12_ok 0 (by decide)) rfl rfl sh_251 rfl km_251 dX12_image_2 ?_
  refine V.aload_n 0 dX12_image_5 rfl rfl ?_
  refine V.getI fl_X12_291 sh_251 rfl km_251 dX12_image_6 ?_
  refine V.if_ne (tgt := 14) dX12_image_9 rfl (fun c => ?_) (fun c => ?_)
  · replace hF := (if_neg c).symm.trans hF
    refine V.iconst (v := 0) dX12_image_14 rfl ?_
    refine V.istore_n [(1, _), (0, _)] dX12_image_15 rfl (by decide) rfl ?_
    exact V.sub [1, 0] rfl (v_X12_image_16 n _ _ hF)
  · replace hF := (if_pos c).symm.trans hF
    refine V.iconst (v := -1) dX12_image_12 rfl ?_
    cases hF
    exact V.iret dX12_image_13
/-! MonsterCotModel.back -/
theorem dX12_back_0 : decode cX12_back 0 = .ok (.aload_n 0, 1) := by decide +kernel
theorem dX12_back_1 : decode cX12_back 1 = .ok (.iconst 0, 1) := by decide +kernel
theorem dX12_back_2 : decode cX12_back 2 = .ok (.putfield 93, 3) := by decide +kernel
theorem dX12_back_5 : decode cX12_back 5 = .ok (.aload_n 0, 1) := by decide +kernel
theorem dX12_back_6 : decode cX12_back 6 = .ok (.getfield 300, 3) := by decide +kernel
theorem dX12_back_9 : decode cX12_back 9 = .ok (.ifCond .ne 5, 3) := by decide +kernel
theorem dX12_back_12 : decode cX12_back 12 = .ok (.iconst (-1), 1) := by decide +kernel
theorem dX12_back_13 : decode cX12_back 13 = .ok (.ireturn, 1) := by decide +kernel
theorem dX12_back_14 : decode cX12_back 14 = .ok (.iconst 0, 1) := by decide +kernel
theorem dX12_back_15 : decode cX12_back 15 = .ok (.istore_n 1, 1) := by decide +kernel
theorem dX12_back_16 : decode cX12_back 16 = .ok (.iload_n 1, 1) := by decide +kernel
theorem dX12_back_17 : decode cX12_back 17 = .ok (.sipush 211, 3) := by decide +kernel
theorem dX12_back_20 : decode cX12_back 20 = .ok (.if_icmp .ge 21, 3) := by decide +kernel
theorem dX12_back_23 : decode cX12_back 23 = .ok (.aload_n 0, 1) := by decide +kernel
theorem dX12_back_24 : decode cX12_back 24 = .ok (.getfield 61, 3) := by decide +kernel
theorem dX12_back_27 : decode cX12_back 27 = .ok (.iload_n 1, 1) := by decide +kernel
theorem dX12_back_28 : decode cX12_back 28 = .ok (.aload_n 0, 1) := by decide +kernel
theorem dX12_back_29 : decode cX12_back 29 = .ok (.getfield 90, 3) := by decide +kernel
theorem dX12_back_32 : decode cX12_back 32 = .ok (.iload_n 1, 1) := by decide +kernel
theorem dX12_back_33 : decode cX12_back 33 = .ok (.iaload, 1) := by decide +kernel
theorem dX12_back_34 : decode cX12_back 34 = .ok (.iastore, 1) := by decide +kernel
theorem dX12_back_35 : decode cX12_back 35 = .ok (.iinc 1 1, 3) := by decide +kernel
theorem dX12_back_38 : decode cX12_back 38 = .ok (.goto (-22), 3) := by decide +kernel
theorem dX12_back_41 : decode cX12_back 41 = .ok (.aload_n 0, 1) := by decide +kernel
theorem dX12_back_42 : decode cX12_back 42 = .ok (.iconst 0, 1) := by decide +kernel
theorem dX12_back_43 : decode cX12_back 43 = .ok (.putfield 297, 3) := by decide +kernel
theorem dX12_back_46 : decode cX12_back 46 = .ok (.aload_n 0, 1) := by decide +kernel
theorem dX12_back_47 : decode cX12_back 47 = .ok (.getfield 61, 3) := by decide +kernel
theorem dX12_back_50 : decode cX12_back 50 = .ok (.bipush 29, 2) := by decide +kernel
theorem dX12_back_52 : decode cX12_back 52 = .ok (.iaload, 1) := by decide +kernel
theorem dX12_back_53 : decode cX12_back 53 = .ok (.ireturn, 1) := by decide +kernel
def X12_back_16 (n : Nat) : Nat → Int32 → Mm → Option (Int32 × Mm)
  | 0, _, _ => none
  | f + 1, x1, h => (if (211) ≤ x1 then (if inB (29) (aln 264) then (some (((wI h 251 39 (0)).1 264 (29).toNatClampNeg), (wI h 251 39 (0)))) else none) else (if inB x1 (aln 272) then (if inB x1 (aln 264) then ((X12_back_16 n f) (x1 + (1)) (wI h 264 x1.toNatClampNeg (h.1 272 x1.toNatClampNeg))) else none) else none))
set_option maxRecDepth 100000 in
set_option maxHeartbeats 4000000 in
theorem v_X12_back_16 {X : WX} {G : GX} {o : Mm} {n : Nat} {rv : Int32} {hz : Mm} : ∀ (f : Nat) (x1 : Int32) (h : Mm), X12_back_16 n f x1 h = some (rv, hz) → V X G RX12 cX12_back 2 (some .int) 1 0 0 (QR X G false o (some (.int rv)) hz) false o 16 [(0, .ref (xa X 251)), (1, .int x1)] [] h := by
  intro f
  induction f with
  | zero => intro x1 h hF; exact nomatch (show (none : Option (Int32 × Mm)) = some (rv, hz) from hF)
  | succ f ih =>
    intro x1 h hF
    unfold X12_back_16 at hF
    refine V.iload_n 1 dX12_back_16 rfl rfl ?_
    refine V.sipush (v := 211) dX12_back_17 (by decide) ?_
    refine V.icmp_ge (tgt := 41) dX12_back_20 rfl (fun c => ?_) (fun c => ?_)
    · replace hF := (if_pos c).symm.trans hF
      refine V.aload_n 0 dX12_back_41 rfl rfl ?_
      refine V.iconst (v := 0) dX12_back_42 rfl ?_
      refine V.putI fl_X12_297 rfl (tyX12_ok 39 (by decide)) rfl rfl sh_251 rfl km_251 dX12_back_43 ?_
      refine V.aload_n 0 dX12_back_46 rfl rfl ?_
      refine V.getR (v := 264) fl_X12_61 sh_251 rfl fx_251_32 (by decide) dX12_back_47 ?_
      refine V.bipush (v := 29) dX12_back_50 (by decide) ?_
      obtain ⟨hk, hF⟩ := ck hF
      refine V.iald io_264 hk dX12_back_52 ?_
      cases hF
      exact V.iret dX12_back_53
    · replace hF := (if_neg c).symm.trans hF
      refine V.aload_n 0 dX12_back_23 rfl rfl ?_
      refine V.getR (v := 264) fl_X12_61 sh_251 rfl fx_251_32 (by decide) dX12_back_24 ?_
      refine V.iload_n 1 dX12_back_27 rfl rfl ?_
      refine V.aload_n 0 dX12_back_28 rfl rfl ?_
      refine V.getR (v := 272) fl_X12_90 sh_251 rfl fx_251_49 (by decide) dX12_back_29 ?_
      refine V.iload_n 1 dX12_back_32 rfl rfl ?_
      obtain ⟨hk, hF⟩ := ck hF
      refine V.iald io_272 hk dX12_back_33 ?_
      obtain ⟨hk, hF⟩ := ck hF
      refine V.iast io_264 hk dX12_back_34 ?_
      refine V.iinc (v := (x1 + (1))) 1 [(1, _), (0, _)] dX12_back_35 rfl rfl (by decide) rfl ?_
      refine V.goto (tgt := 16) dX12_back_38 rfl ?_
      exact V.sub [1, 0] rfl (ih _ _ hF)
def X12_back (n : Nat) (h : Mm) : Option (Int32 × Mm) := (if ((wI h 251 0 (0)).1 251 50) = 0 then (some ((-1), (wI h 251 0 (0)))) else (X12_back_16 n n (0) (wI h 251 0 (0))))
set_option maxRecDepth 100000 in
set_option maxHeartbeats 4000000 in
theorem s_X12_back {X : WX} {o : Mm} {n : Nat} {rv : Int32} {hz : Mm} {h : Mm} (hF : X12_back n h = some (rv, hz)) : Sat X yX12_back cX12_back 2 (some .int) 1 [.ref (xa X 251)] false o h (some (.int rv)) hz := by
  unfold X12_back at hF
  refine Sat.mk (own := RX12) rfl (by decide +kernel) (Nat.le_of_ble_eq_true rfl) (fun G => ?_)
  refine V.sub (lv2 := [(0, _)]) [0] rfl ?_
  refine V.aload_n 0 dX12_back_0 rfl rfl ?_
  refine V.iconst (v := 0) dX12_back_1 rfl ?_
  refine V.putI fl_X12_93 rfl (tyX12_ok 0 (by decide)) rfl rfl sh_251 rfl km_251 dX12_back_2 ?_
  refine V.aload_n 0 dX12_back_5 rfl rfl ?_
  refine V.getI fl_X12_300 sh_251 rfl km_251 dX12_back_6 ?_
  refine V.if_ne (tgt := 14) dX12_back_9 rfl (fun c => ?_) (fun c => ?_)
  · replace hF := (if_neg c).symm.trans hF
    refine V.iconst (v := 0) dX12_back_14 rfl ?_
    refine V.istore_n [(1, _), (0, _)] dX12_back_15 rfl (by decide) rfl ?_
    exact V.sub [1, 0] rfl (v_X12_back_16 n _ _ hF)
  · replace hF := (if_pos c).symm.trans hF
    refine V.iconst (v := -1) dX12_back_12 rfl ?_
    cases hF
    exact V.iret dX12_back_13
/-! MonsterCotModel.count -/
theorem dX12_count_0 : decode cX12_count 0 = .ok (.aload_n 0, 1) := by decide +kernel
theorem dX12_count_1 : decode cX12_count 1 = .ok (.iconst 0, 1) := by decide +kernel
theorem dX12_count_2 : decode cX12_count 2 = .ok (.putfield 93, 3) := by decide +kernel
theorem dX12_count_5 : decode cX12_count 5 = .ok (.iload_n 1, 1) := by decide +kernel
theorem dX12_count_6 : decode cX12_count 6 = .ok (.tableswitch 179 0 15 #[78, 83, 88, 93, 98, 103, 108, 116, 124, 132, 140, 148, 156, 161, 166, 174], 78) := by decide +kernel
theorem dX12_count_84 : decode cX12_count 84 = .ok (.aload_n 0, 1) := by decide +kernel
theorem dX12_count_85 : decode cX12_count 85 = .ok (.getfield 291, 3) := by decide +kernel
theorem dX12_count_88 : decode cX12_count 88 = .ok (.ireturn, 1) := by decide +kernel
theorem dX12_count_89 : decode cX12_count 89 = .ok (.aload_n 0, 1) := by decide +kernel
theorem dX12_count_90 : decode cX12_count 90 = .ok (.getfield 288, 3) := by decide +kernel
theorem dX12_count_93 : decode cX12_count 93 = .ok (.ireturn, 1) := by decide +kernel
theorem dX12_count_94 : decode cX12_count 94 = .ok (.aload_n 0, 1) := by decide +kernel
theorem dX12_count_95 : decode cX12_count 95 = .ok (.getfield 280, 3) := by decide +kernel
theorem dX12_count_98 : decode cX12_count 98 = .ok (.ireturn, 1) := by decide +kernel
theorem dX12_count_99 : decode cX12_count 99 = .ok (.aload_n 0, 1) := by decide +kernel
theorem dX12_count_100 : decode cX12_count 100 = .ok (.getfield 283, 3) := by decide +kernel
theorem dX12_count_103 : decode cX12_count 103 = .ok (.ireturn, 1) := by decide +kernel
theorem dX12_count_104 : decode cX12_count 104 = .ok (.aload_n 0, 1) := by decide +kernel
theorem dX12_count_105 : decode cX12_count 105 = .ok (.getfield 106, 3) := by decide +kernel
theorem dX12_count_108 : decode cX12_count 108 = .ok (.ireturn, 1) := by decide +kernel
theorem dX12_count_109 : decode cX12_count 109 = .ok (.aload_n 0, 1) := by decide +kernel
theorem dX12_count_110 : decode cX12_count 110 = .ok (.getfield 67, 3) := by decide +kernel
theorem dX12_count_113 : decode cX12_count 113 = .ok (.ireturn, 1) := by decide +kernel
theorem dX12_count_114 : decode cX12_count 114 = .ok (.aload_n 0, 1) := by decide +kernel
theorem dX12_count_115 : decode cX12_count 115 = .ok (.getfield 61, 3) := by decide +kernel
theorem dX12_count_118 : decode cX12_count 118 = .ok (.bipush 29, 2) := by decide +kernel
theorem dX12_count_120 : decode cX12_count 120 = .ok (.iaload, 1) := by decide +kernel
theorem dX12_count_121 : decode cX12_count 121 = .ok (.ireturn, 1) := by decide +kernel
theorem dX12_count_122 : decode cX12_count 122 = .ok (.aload_n 0, 1) := by decide +kernel
theorem dX12_count_123 : decode cX12_count 123 = .ok (.getfield 61, 3) := by decide +kernel
theorem dX12_count_126 : decode cX12_count 126 = .ok (.bipush 23, 2) := by decide +kernel
theorem dX12_count_128 : decode cX12_count 128 = .ok (.iaload, 1) := by decide +kernel
theorem dX12_count_129 : decode cX12_count 129 = .ok (.ireturn, 1) := by decide +kernel
theorem dX12_count_130 : decode cX12_count 130 = .ok (.aload_n 0, 1) := by decide +kernel
theorem dX12_count_131 : decode cX12_count 131 = .ok (.getfield 61, 3) := by decide +kernel
theorem dX12_count_134 : decode cX12_count 134 = .ok (.bipush 27, 2) := by decide +kernel
theorem dX12_count_136 : decode cX12_count 136 = .ok (.iaload, 1) := by decide +kernel
theorem dX12_count_137 : decode cX12_count 137 = .ok (.ireturn, 1) := by decide +kernel
theorem dX12_count_138 : decode cX12_count 138 = .ok (.aload_n 0, 1) := by decide +kernel
theorem dX12_count_139 : decode cX12_count 139 = .ok (.getfield 61, 3) := by decide +kernel
theorem dX12_count_142 : decode cX12_count 142 = .ok (.bipush 28, 2) := by decide +kernel
theorem dX12_count_144 : decode cX12_count 144 = .ok (.iaload, 1) := by decide +kernel
theorem dX12_count_145 : decode cX12_count 145 = .ok (.ireturn, 1) := by decide +kernel
theorem dX12_count_146 : decode cX12_count 146 = .ok (.aload_n 0, 1) := by decide +kernel
theorem dX12_count_147 : decode cX12_count 147 = .ok (.getfield 61, 3) := by decide +kernel
theorem dX12_count_150 : decode cX12_count 150 = .ok (.bipush 25, 2) := by decide +kernel
theorem dX12_count_152 : decode cX12_count 152 = .ok (.iaload, 1) := by decide +kernel
theorem dX12_count_153 : decode cX12_count 153 = .ok (.ireturn, 1) := by decide +kernel
theorem dX12_count_154 : decode cX12_count 154 = .ok (.aload_n 0, 1) := by decide +kernel
theorem dX12_count_155 : decode cX12_count 155 = .ok (.getfield 61, 3) := by decide +kernel
theorem dX12_count_158 : decode cX12_count 158 = .ok (.bipush 26, 2) := by decide +kernel
theorem dX12_count_160 : decode cX12_count 160 = .ok (.iaload, 1) := by decide +kernel
theorem dX12_count_161 : decode cX12_count 161 = .ok (.ireturn, 1) := by decide +kernel
theorem dX12_count_162 : decode cX12_count 162 = .ok (.aload_n 0, 1) := by decide +kernel
theorem dX12_count_163 : decode cX12_count 163 = .ok (.getfield 352, 3) := by decide +kernel
theorem dX12_count_166 : decode cX12_count 166 = .ok (.ireturn, 1) := by decide +kernel
theorem dX12_count_167 : decode cX12_count 167 = .ok (.aload_n 0, 1) := by decide +kernel
theorem dX12_count_168 : decode cX12_count 168 = .ok (.getfield 294, 3) := by decide +kernel
theorem dX12_count_171 : decode cX12_count 171 = .ok (.ireturn, 1) := by decide +kernel
theorem dX12_count_172 : decode cX12_count 172 = .ok (.aload_n 0, 1) := by decide +kernel
theorem dX12_count_173 : decode cX12_count 173 = .ok (.getfield 61, 3) := by decide +kernel
theorem dX12_count_176 : decode cX12_count 176 = .ok (.bipush 30, 2) := by decide +kernel
theorem dX12_count_178 : decode cX12_count 178 = .ok (.iaload, 1) := by decide +kernel
theorem dX12_count_179 : decode cX12_count 179 = .ok (.ireturn, 1) := by decide +kernel
theorem dX12_count_180 : decode cX12_count 180 = .ok (.aload_n 0, 1) := by decide +kernel
theorem dX12_count_181 : decode cX12_count 181 = .ok (.getfield 297, 3) := by decide +kernel
theorem dX12_count_184 : decode cX12_count 184 = .ok (.ireturn, 1) := by decide +kernel
theorem dX12_count_185 : decode cX12_count 185 = .ok (.ldc_w 400, 3) := by decide +kernel
theorem dX12_count_188 : decode cX12_count 188 = .ok (.ireturn, 1) := by decide +kernel
def X12_count (x1 : Int32) (h : Mm) : Option (Int32 × Mm) := (if x1 = 0 then (some (((wI h 251 0 (0)).1 251 27), (wI h 251 0 (0)))) else (if x1 = 1 then (some (((wI h 251 0 (0)).1 251 26), (wI h 251 0 (0)))) else (if x1 = 2 then (some (((wI h 251 0 (0)).1 251 7), (wI h 251 0 (0)))) else (if x1 = 3 then (some (((wI h 251 0 (0)).1 251 30), (wI h 251 0 (0)))) else (if x1 = 4 then (some (((wI h 251 0 (0)).1 251 6), (wI h 251 0 (0)))) else (if x1 = 5 then (some (((wI h 251 0 (0)).1 251 34), (wI h 251 0 (0)))) else (if x1 = 6 then (if inB (29) (aln 264) then (some (((wI h 251 0 (0)).1 264 (29).toNatClampNeg), (wI h 251 0 (0)))) else none) else (if x1 = 7 then (if inB (23) (aln 264) then (some (((wI h 251 0 (0)).1 264 (23).toNatClampNeg), (wI h 251 0 (0)))) else none) else (if x1 = 8 then (if inB (27) (aln 264) then (some (((wI h 251 0 (0)).1 264 (27).toNatClampNeg), (wI h 251 0 (0)))) else none) else (if x1 = 9 then (if inB (28) (aln 264) then (some (((wI h 251 0 (0)).1 264 (28).toNatClampNeg), (wI h 251 0 (0)))) else none) else (if x1 = 10 then (if inB (25) (aln 264) then (some (((wI h 251 0 (0)).1 264 (25).toNatClampNeg), (wI h 251 0 (0)))) else none) else (if x1 = 11 then (if inB (26) (aln 264) then (some (((wI h 251 0 (0)).1 264 (26).toNatClampNeg), (wI h 251 0 (0)))) else none) else (if x1 = 12 then (some (((wI h 251 0 (0)).1 251 35), (wI h 251 0 (0)))) else (if x1 = 13 then (some (((wI h 251 0 (0)).1 251 47), (wI h 251 0 (0)))) else (if x1 = 14 then (if inB (30) (aln 264) then (some (((wI h 251 0 (0)).1 264 (30).toNatClampNeg), (wI h 251 0 (0)))) else none) else (if x1 = 15 then (some (((wI h 251 0 (0)).1 251 39), (wI h 251 0 (0)))) else (some ((-1000000), (wI h 251 0 (0))))))))))))))))))))
set_option maxRecDepth 100000 in
set_option maxHeartbeats 4000000 in
theorem s_X12_count {X : WX} {o : Mm} {x1 : Int32} {rv : Int32} {hz : Mm} {h : Mm} (hF : X12_count x1 h = some (rv, hz)) : Sat X yX12_count cX12_count 2 (some .int) 1 [.ref (xa X 251), .int x1] false o h (some (.int rv)) hz := by
  unfold X12_count at hF
  refine Sat.mk (own := RX12) rfl (by decide +kernel) (Nat.le_of_ble_eq_true rfl) (fun G => ?_)
  refine V.sub (lv2 := [(0, _), (1, _)]) [0, 1] rfl ?_
  refine V.aload_n 0 dX12_count_0 rfl rfl ?_
  refine V.iconst (v := 0) dX12_count_1 rfl ?_
  refine V.putI fl_X12_93 rfl (tyX12_ok 0 (by decide)) rfl rfl sh_251 rfl km_251 dX12_count_2 ?_
  refine V.iload_n 1 dX12_count_5 rfl rfl ?_
  by_cases c0 : x1 = 0
  · replace hF := (if_pos c0).symm.trans hF
    refine V.tswIn (tgt := 84) c0 dX12_count_6 (by decide) (by decide) rfl rfl ?_
    refine V.aload_n 0 dX12_count_84 rfl rfl ?_
    refine V.getI fl_X12_291 sh_251 rfl km_251 dX12_count_85 ?_
    cases hF
    exact V.iret dX12_count_88
  replace hF := (if_neg c0).symm.trans hF
  by_cases c1 : x1 = 1
  · replace hF := (if_pos c1).symm.trans hF
    refine V.tswIn (tgt := 89) c1 dX12_count_6 (by decide) (by decide) rfl rfl ?_
    refine V.aload_n 0 dX12_count_89 rfl rfl ?_
    refine V.getI fl_X12_288 sh_251 rfl km_251 dX12_count_90 ?_
    cases hF
    exact V.iret dX12_count_93
  replace hF := (if_neg c1).symm.trans hF
  by_cases c2 : x1 = 2
  · replace hF := (if_pos c2).symm.trans hF
    refine V.tswIn (tgt := 94) c2 dX12_count_6 (by decide) (by decide) rfl rfl ?_
    refine V.aload_n 0 dX12_count_94 rfl rfl ?_
    refine V.getI fl_X12_280 sh_251 rfl km_251 dX12_count_95 ?_
    cases hF
    exact V.iret dX12_count_98
  replace hF := (if_neg c2).symm.trans hF
  by_cases c3 : x1 = 3
  · replace hF := (if_pos c3).symm.trans hF
    refine V.tswIn (tgt := 99) c3 dX12_count_6 (by decide) (by decide) rfl rfl ?_
    refine V.aload_n 0 dX12_count_99 rfl rfl ?_
    refine V.getI fl_X12_283 sh_251 rfl km_251 dX12_count_100 ?_
    cases hF
    exact V.iret dX12_count_103
  replace hF := (if_neg c3).symm.trans hF
  by_cases c4 : x1 = 4
  · replace hF := (if_pos c4).symm.trans hF
    refine V.tswIn (tgt := 104) c4 dX12_count_6 (by decide) (by decide) rfl rfl ?_
    refine V.aload_n 0 dX12_count_104 rfl rfl ?_
    refine V.getI fl_X12_106 sh_251 rfl km_251 dX12_count_105 ?_
    cases hF
    exact V.iret dX12_count_108
  replace hF := (if_neg c4).symm.trans hF
  by_cases c5 : x1 = 5
  · replace hF := (if_pos c5).symm.trans hF
    refine V.tswIn (tgt := 109) c5 dX12_count_6 (by decide) (by decide) rfl rfl ?_
    refine V.aload_n 0 dX12_count_109 rfl rfl ?_
    refine V.getI fl_X12_67 sh_251 rfl km_251 dX12_count_110 ?_
    cases hF
    exact V.iret dX12_count_113
  replace hF := (if_neg c5).symm.trans hF
  by_cases c6 : x1 = 6
  · replace hF := (if_pos c6).symm.trans hF
    refine V.tswIn (tgt := 114) c6 dX12_count_6 (by decide) (by decide) rfl rfl ?_
    refine V.aload_n 0 dX12_count_114 rfl rfl ?_
    refine V.getR (v := 264) fl_X12_61 sh_251 rfl fx_251_32 (by decide) dX12_count_115 ?_
    refine V.bipush (v := 29) dX12_count_118 (by decide) ?_
    obtain ⟨hk, hF⟩ := ck hF
    refine V.iald io_264 hk dX12_count_120 ?_
    cases hF
    exact V.iret dX12_count_121
  replace hF := (if_neg c6).symm.trans hF
  by_cases c7 : x1 = 7
  · replace hF := (if_pos c7).symm.trans hF
    refine V.tswIn (tgt := 122) c7 dX12_count_6 (by decide) (by decide) rfl rfl ?_
    refine V.aload_n 0 dX12_count_122 rfl rfl ?_
    refine V.getR (v := 264) fl_X12_61 sh_251 rfl fx_251_32 (by decide) dX12_count_123 ?_
    refine V.bipush (v := 23) dX12_count_126 (by decide) ?_
    obtain ⟨hk, hF⟩ := ck hF
    refine V.iald io_264 hk dX12_count_128 ?_
    cases hF
    exact V.iret dX12_count_129
  replace hF := (if_neg c7).symm.trans hF
  by_cases c8 : x1 = 8
  · replace hF := (if_pos c8).symm.trans hF
    refine V.tswIn (tgt := 130) c8 dX12_count_6 (by decide) (by decide) rfl rfl ?_
    refine V.aload_n 0 dX12_count_130 rfl rfl ?_
    refine V.getR (v := 264) fl_X12_61 sh_251 rfl fx_251_32 (by decide) dX12_count_131 ?_
    refine V.bipush (v := 27) dX12_count_134 (by decide) ?_
    obtain ⟨hk, hF⟩ := ck hF
    refine V.iald io_264 hk dX12_count_136 ?_
    cases hF
    exact V.iret dX12_count_137
  replace hF := (if_neg c8).symm.trans hF
  by_cases c9 : x1 = 9
  · replace hF := (if_pos c9).symm.trans hF
    refine V.tswIn (tgt := 138) c9 dX12_count_6 (by decide) (by decide) rfl rfl ?_
    refine V.aload_n 0 dX12_count_138 rfl rfl ?_
    refine V.getR (v := 264) fl_X12_61 sh_251 rfl fx_251_32 (by decide) dX12_count_139 ?_
    refine V.bipush (v := 28) dX12_count_142 (by decide) ?_
    obtain ⟨hk, hF⟩ := ck hF
    refine V.iald io_264 hk dX12_count_144 ?_
    cases hF
    exact V.iret dX12_count_145
  replace hF := (if_neg c9).symm.trans hF
  by_cases c10 : x1 = 10
  · replace hF := (if_pos c10).symm.trans hF
    refine V.tswIn (tgt := 146) c10 dX12_count_6 (by decide) (by decide) rfl rfl ?_
    refine V.aload_n 0 dX12_count_146 rfl rfl ?_
    refine V.getR (v := 264) fl_X12_61 sh_251 rfl fx_251_32 (by decide) dX12_count_147 ?_
    refine V.bipush (v := 25) dX12_count_150 (by decide) ?_
    obtain ⟨hk, hF⟩ := ck hF
    refine V.iald io_264 hk dX12_count_152 ?_
    cases hF
    exact V.iret dX12_count_153
  replace hF := (if_neg c10).symm.trans hF
  by_cases c11 : x1 = 11
  · replace hF := (if_pos c11).symm.trans hF
    refine V.tswIn (tgt := 154) c11 dX12_count_6 (by decide) (by decide) rfl rfl ?_
    refine V.aload_n 0 dX12_count_154 rfl rfl ?_
    refine V.getR (v := 264) fl_X12_61 sh_251 rfl fx_251_32 (by decide) dX12_count_155 ?_
    refine V.bipush (v := 26) dX12_count_158 (by decide) ?_
    obtain ⟨hk, hF⟩ := ck hF
    refine V.iald io_264 hk dX12_count_160 ?_
    cases hF
    exact V.iret dX12_count_161
  replace hF := (if_neg c11).symm.trans hF
  by_cases c12 : x1 = 12
  · replace hF := (if_pos c12).symm.trans hF
    refine V.tswIn (tgt := 162) c12 dX12_count_6 (by decide) (by decide) rfl rfl ?_
    refine V.aload_n 0 dX12_count_162 rfl rfl ?_
    refine V.getI fl_X12_352 sh_251 rfl km_251 dX12_count_163 ?_
    cases hF
    exact V.iret dX12_count_166
  replace hF := (if_neg c12).symm.trans hF
  by_cases c13 : x1 = 13
  · replace hF := (if_pos c13).symm.trans hF
    refine V.tswIn (tgt := 167) c13 dX12_count_6 (by decide) (by decide) rfl rfl ?_
    refine V.aload_n 0 dX12_count_167 rfl rfl ?_
    refine V.getI fl_X12_294 sh_251 rfl km_251 dX12_count_168 ?_
    cases hF
    exact V.iret dX12_count_171
  replace hF := (if_neg c13).symm.trans hF
  by_cases c14 : x1 = 14
  · replace hF := (if_pos c14).symm.trans hF
    refine V.tswIn (tgt := 172) c14 dX12_count_6 (by decide) (by decide) rfl rfl ?_
    refine V.aload_n 0 dX12_count_172 rfl rfl ?_
    refine V.getR (v := 264) fl_X12_61 sh_251 rfl fx_251_32 (by decide) dX12_count_173 ?_
    refine V.bipush (v := 30) dX12_count_176 (by decide) ?_
    obtain ⟨hk, hF⟩ := ck hF
    refine V.iald io_264 hk dX12_count_178 ?_
    cases hF
    exact V.iret dX12_count_179
  replace hF := (if_neg c14).symm.trans hF
  by_cases c15 : x1 = 15
  · replace hF := (if_pos c15).symm.trans hF
    refine V.tswIn (tgt := 180) c15 dX12_count_6 (by decide) (by decide) rfl rfl ?_
    refine V.aload_n 0 dX12_count_180 rfl rfl ?_
    refine V.getI fl_X12_297 sh_251 rfl km_251 dX12_count_181 ?_
    cases hF
    exact V.iret dX12_count_184
  replace hF := (if_neg c15).symm.trans hF
  refine V.tswOut (tgt := 185) dX12_count_6 (tsw_out (by decide) (by decide) [0, 1, 2, 3, 4, 5, 6, 7, 8, 9, 10, 11, 12, 13, 14, 15] rfl (fun v hv => ?_)) rfl ?_
  · simp only [List.mem_cons, List.not_mem_nil, or_false] at hv
    rcases hv with rfl | rfl | rfl | rfl | rfl | rfl | rfl | rfl | rfl | rfl | rfl | rfl | rfl | rfl | rfl | rfl <;> assumption
  refine V.ldcw (v := -1000000) dX12_count_185 kc_X12_400 ?_
  cases hF
  exact V.iret dX12_count_188
