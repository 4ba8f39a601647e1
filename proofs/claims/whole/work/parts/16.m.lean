/-! MonsterCot$Search.calmBehindSet -/
theorem dX6_calmBehindSet_0 : decode cX6_calmBehindSet 0 = .ok (.aload_n 0, 1) := by decide +kernel
theorem dX6_calmBehindSet_1 : decode cX6_calmBehindSet 1 = .ok (.getfield 34, 3) := by decide +kernel
theorem dX6_calmBehindSet_4 : decode cX6_calmBehindSet 4 = .ok (.getfield 45, 3) := by decide +kernel
theorem dX6_calmBehindSet_7 : decode cX6_calmBehindSet 7 = .ok (.aload_n 0, 1) := by decide +kernel
theorem dX6_calmBehindSet_8 : decode cX6_calmBehindSet 8 = .ok (.getfield 9, 3) := by decide +kernel
theorem dX6_calmBehindSet_11 : decode cX6_calmBehindSet 11 = .ok (.invokestatic 48, 3) := by decide +kernel
theorem dX6_calmBehindSet_14 : decode cX6_calmBehindSet 14 = .ok (.aload_n 0, 1) := by decide +kernel
theorem dX6_calmBehindSet_15 : decode cX6_calmBehindSet 15 = .ok (.getfield 34, 3) := by decide +kernel
theorem dX6_calmBehindSet_18 : decode cX6_calmBehindSet 18 = .ok (.getfield 83, 3) := by decide +kernel
theorem dX6_calmBehindSet_21 : decode cX6_calmBehindSet 21 = .ok (.aload_n 0, 1) := by decide +kernel
theorem dX6_calmBehindSet_22 : decode cX6_calmBehindSet 22 = .ok (.getfield 34, 3) := by decide +kernel
theorem dX6_calmBehindSet_25 : decode cX6_calmBehindSet 25 = .ok (.getfield 86, 3) := by decide +kernel
theorem dX6_calmBehindSet_28 : decode cX6_calmBehindSet 28 = .ok (.invokestatic 79, 3) := by decide +kernel
theorem dX6_calmBehindSet_31 : decode cX6_calmBehindSet 31 = .ok (.istore_n 2, 1) := by decide +kernel
theorem dX6_calmBehindSet_32 : decode cX6_calmBehindSet 32 = .ok (.aload_n 0, 1) := by decide +kernel
theorem dX6_calmBehindSet_33 : decode cX6_calmBehindSet 33 = .ok (.getfield 34, 3) := by decide +kernel
theorem dX6_calmBehindSet_36 : decode cX6_calmBehindSet 36 = .ok (.getfield 89, 3) := by decide +kernel
theorem dX6_calmBehindSet_39 : decode cX6_calmBehindSet 39 = .ok (.aload_n 0, 1) := by decide +kernel
theorem dX6_calmBehindSet_40 : decode cX6_calmBehindSet 40 = .ok (.getfield 34, 3) := by decide +kernel
theorem dX6_calmBehindSet_43 : decode cX6_calmBehindSet 43 = .ok (.getfield 86, 3) := by decide +kernel
theorem dX6_calmBehindSet_46 : decode cX6_calmBehindSet 46 = .ok (.invokestatic 79, 3) := by decide +kernel
theorem dX6_calmBehindSet_49 : decode cX6_calmBehindSet 49 = .ok (.istore_n 3, 1) := by decide +kernel
theorem dX6_calmBehindSet_50 : decode cX6_calmBehindSet 50 = .ok (.aload_n 0, 1) := by decide +kernel
theorem dX6_calmBehindSet_51 : decode cX6_calmBehindSet 51 = .ok (.getfield 34, 3) := by decide +kernel
theorem dX6_calmBehindSet_54 : decode cX6_calmBehindSet 54 = .ok (.getfield 52, 3) := by decide +kernel
theorem dX6_calmBehindSet_57 : decode cX6_calmBehindSet 57 = .ok (.istore 4, 2) := by decide +kernel
theorem dX6_calmBehindSet_59 : decode cX6_calmBehindSet 59 = .ok (.iconst 0, 1) := by decide +kernel
theorem dX6_calmBehindSet_60 : decode cX6_calmBehindSet 60 = .ok (.istore 5, 2) := by decide +kernel
theorem dX6_calmBehindSet_62 : decode cX6_calmBehindSet 62 = .ok (.iload 5, 2) := by decide +kernel
theorem dX6_calmBehindSet_64 : decode cX6_calmBehindSet 64 = .ok (.aload_n 0, 1) := by decide +kernel
theorem dX6_calmBehindSet_65 : decode cX6_calmBehindSet 65 = .ok (.getfield 28, 3) := by decide +kernel
theorem dX6_calmBehindSet_68 : decode cX6_calmBehindSet 68 = .ok (.invokevirtual 59, 3) := by decide +kernel
theorem dX6_calmBehindSet_71 : decode cX6_calmBehindSet 71 = .ok (.if_icmp .ge 122, 3) := by decide +kernel
theorem dX6_calmBehindSet_74 : decode cX6_calmBehindSet 74 = .ok (.iload_n 1, 1) := by decide +kernel
theorem dX6_calmBehindSet_75 : decode cX6_calmBehindSet 75 = .ok (.iload 5, 2) := by decide +kernel
theorem dX6_calmBehindSet_77 : decode cX6_calmBehindSet 77 = .ok (.ishr, 1) := by decide +kernel
theorem dX6_calmBehindSet_78 : decode cX6_calmBehindSet 78 = .ok (.iconst 1, 1) := by decide +kernel
theorem dX6_calmBehindSet_79 : decode cX6_calmBehindSet 79 = .ok (.iand, 1) := by decide +kernel
theorem dX6_calmBehindSet_80 : decode cX6_calmBehindSet 80 = .ok (.ifCond .eq 107, 3) := by decide +kernel
theorem dX6_calmBehindSet_83 : decode cX6_calmBehindSet 83 = .ok (.aload_n 0, 1) := by decide +kernel
theorem dX6_calmBehindSet_84 : decode cX6_calmBehindSet 84 = .ok (.getfield 28, 3) := by decide +kernel
theorem dX6_calmBehindSet_87 : decode cX6_calmBehindSet 87 = .ok (.iload 5, 2) := by decide +kernel
theorem dX6_calmBehindSet_89 : decode cX6_calmBehindSet 89 = .ok (.invokevirtual 95, 3) := by decide +kernel
theorem dX6_calmBehindSet_92 : decode cX6_calmBehindSet 92 = .ok (.istore 6, 2) := by decide +kernel
theorem dX6_calmBehindSet_94 : decode cX6_calmBehindSet 94 = .ok (.iload_n 3, 1) := by decide +kernel
theorem dX6_calmBehindSet_95 : decode cX6_calmBehindSet 95 = .ok (.iload 6, 2) := by decide +kernel
theorem dX6_calmBehindSet_97 : decode cX6_calmBehindSet 97 = .ok (.iadd, 1) := by decide +kernel
theorem dX6_calmBehindSet_98 : decode cX6_calmBehindSet 98 = .ok (.aload_n 0, 1) := by decide +kernel
theorem dX6_calmBehindSet_99 : decode cX6_calmBehindSet 99 = .ok (.getfield 28, 3) := by decide +kernel
theorem dX6_calmBehindSet_102 : decode cX6_calmBehindSet 102 = .ok (.aload_n 0, 1) := by decide +kernel
theorem dX6_calmBehindSet_103 : decode cX6_calmBehindSet 103 = .ok (.getfield 34, 3) := by decide +kernel
theorem dX6_calmBehindSet_106 : decode cX6_calmBehindSet 106 = .ok (.getfield 86, 3) := by decide +kernel
theorem dX6_calmBehindSet_109 : decode cX6_calmBehindSet 109 = .ok (.invokevirtual 92, 3) := by decide +kernel
theorem dX6_calmBehindSet_112 : decode cX6_calmBehindSet 112 = .ok (.if_icmp .le 5, 3) := by decide +kernel
theorem dX6_calmBehindSet_115 : decode cX6_calmBehindSet 115 = .ok (.iconst (-1), 1) := by decide +kernel
theorem dX6_calmBehindSet_116 : decode cX6_calmBehindSet 116 = .ok (.ireturn, 1) := by decide +kernel
theorem dX6_calmBehindSet_117 : decode cX6_calmBehindSet 117 = .ok (.aload_n 0, 1) := by decide +kernel
theorem dX6_calmBehindSet_118 : decode cX6_calmBehindSet 118 = .ok (.getfield 28, 3) := by decide +kernel
theorem dX6_calmBehindSet_121 : decode cX6_calmBehindSet 121 = .ok (.iload 5, 2) := by decide +kernel
theorem dX6_calmBehindSet_123 : decode cX6_calmBehindSet 123 = .ok (.invokevirtual 76, 3) := by decide +kernel
theorem dX6_calmBehindSet_126 : decode cX6_calmBehindSet 126 = .ok (.istore 7, 2) := by decide +kernel
theorem dX6_calmBehindSet_128 : decode cX6_calmBehindSet 128 = .ok (.aload_n 0, 1) := by decide +kernel
theorem dX6_calmBehindSet_129 : decode cX6_calmBehindSet 129 = .ok (.getfield 18, 3) := by decide +kernel
theorem dX6_calmBehindSet_132 : decode cX6_calmBehindSet 132 = .ok (.iload 4, 2) := by decide +kernel
theorem dX6_calmBehindSet_134 : decode cX6_calmBehindSet 134 = .ok (.iload 5, 2) := by decide +kernel
theorem dX6_calmBehindSet_136 : decode cX6_calmBehindSet 136 = .ok (.iload 6, 2) := by decide +kernel
theorem dX6_calmBehindSet_138 : decode cX6_calmBehindSet 138 = .ok (.iload_n 2, 1) := by decide +kernel
theorem dX6_calmBehindSet_139 : decode cX6_calmBehindSet 139 = .ok (.aload_n 0, 1) := by decide +kernel
theorem dX6_calmBehindSet_140 : decode cX6_calmBehindSet 140 = .ok (.getfield 9, 3) := by decide +kernel
theorem dX6_calmBehindSet_143 : decode cX6_calmBehindSet 143 = .ok (.iload 7, 2) := by decide +kernel
theorem dX6_calmBehindSet_145 : decode cX6_calmBehindSet 145 = .ok (.invokestatic 79, 3) := by decide +kernel
theorem dX6_calmBehindSet_148 : decode cX6_calmBehindSet 148 = .ok (.aload_n 0, 1) := by decide +kernel
theorem dX6_calmBehindSet_149 : decode cX6_calmBehindSet 149 = .ok (.getfield 34, 3) := by decide +kernel
theorem dX6_calmBehindSet_152 : decode cX6_calmBehindSet 152 = .ok (.getfield 107, 3) := by decide +kernel
theorem dX6_calmBehindSet_155 : decode cX6_calmBehindSet 155 = .ok (.iload_n 3, 1) := by decide +kernel
theorem dX6_calmBehindSet_156 : decode cX6_calmBehindSet 156 = .ok (.invokevirtual 146, 3) := by decide +kernel
theorem dX6_calmBehindSet_159 : decode cX6_calmBehindSet 159 = .ok (.istore 4, 2) := by decide +kernel
theorem dX6_calmBehindSet_161 : decode cX6_calmBehindSet 161 = .ok (.aload_n 0, 1) := by decide +kernel
theorem dX6_calmBehindSet_162 : decode cX6_calmBehindSet 162 = .ok (.getfield 9, 3) := by decide +kernel
theorem dX6_calmBehindSet_165 : decode cX6_calmBehindSet 165 = .ok (.iload 7, 2) := by decide +kernel
theorem dX6_calmBehindSet_167 : decode cX6_calmBehindSet 167 = .ok (.aload_n 0, 1) := by decide +kernel
theorem dX6_calmBehindSet_168 : decode cX6_calmBehindSet 168 = .ok (.getfield 9, 3) := by decide +kernel
theorem dX6_calmBehindSet_171 : decode cX6_calmBehindSet 171 = .ok (.iload 7, 2) := by decide +kernel
theorem dX6_calmBehindSet_173 : decode cX6_calmBehindSet 173 = .ok (.invokestatic 79, 3) := by decide +kernel
theorem dX6_calmBehindSet_176 : decode cX6_calmBehindSet 176 = .ok (.invokestatic 123, 3) := by decide +kernel
theorem dX6_calmBehindSet_179 : decode cX6_calmBehindSet 179 = .ok (.invokestatic 126, 3) := by decide +kernel
theorem dX6_calmBehindSet_182 : decode cX6_calmBehindSet 182 = .ok (.iload_n 3, 1) := by decide +kernel
theorem dX6_calmBehindSet_183 : decode cX6_calmBehindSet 183 = .ok (.iload 6, 2) := by decide +kernel
theorem dX6_calmBehindSet_185 : decode cX6_calmBehindSet 185 = .ok (.iadd, 1) := by decide +kernel
theorem dX6_calmBehindSet_186 : decode cX6_calmBehindSet 186 = .ok (.istore_n 3, 1) := by decide +kernel
theorem dX6_calmBehindSet_187 : decode cX6_calmBehindSet 187 = .ok (.iinc 5 1, 3) := by decide +kernel
theorem dX6_calmBehindSet_190 : decode cX6_calmBehindSet 190 = .ok (.goto (-128), 3) := by decide +kernel
theorem dX6_calmBehindSet_193 : decode cX6_calmBehindSet 193 = .ok (.iload 4, 2) := by decide +kernel
theorem dX6_calmBehindSet_195 : decode cX6_calmBehindSet 195 = .ok (.ireturn, 1) := by decide +kernel
def X6_calmBehindSet_187 (n : Nat) (K62 : Int32 → Int32 → Int32 → Int32 → Int32 → Mm → Option (Int32 × Mm)) (x1 : Int32) (x2 : Int32) (x3 : Int32) (x4 : Int32) (x5 : Int32) (h : Mm) : Option (Int32 × Mm) := (K62 x1 x2 x3 x4 (x5 + (1)) h)
set_option maxRecDepth 100000 in
set_option maxHeartbeats 4000000 in
theorem v_X6_calmBehindSet_187 {X : WX} {G : GX} {o : Mm} {n : Nat} {K62 : Int32 → Int32 → Int32 → Int32 → Int32 → Mm → Option (Int32 × Mm)} {rv : Int32} {hz : Mm} (hK62 : ∀ (x1 : Int32) (x2 : Int32) (x3 : Int32) (x4 : Int32) (x5 : Int32) (h : Mm), K62 x1 x2 x3 x4 x5 h = some (rv, hz) → V X G RX6 cX6_calmBehindSet 8 (some .int) 5 0 0 (QR X G true o (some (.int rv)) hz) true o 62 [(0, .ref (xa X 246)), (1, .int x1), (2, .int x2), (3, .int x3), (4, .int x4), (5, .int x5)] [] h) {x1 : Int32} {x2 : Int32} {x3 : Int32} {x4 : Int32} {x5 : Int32} {h : Mm} (hF : X6_calmBehindSet_187 n K62 x1 x2 x3 x4 x5 h = some (rv, hz)) : V X G RX6 cX6_calmBehindSet 8 (some .int) 5 0 0 (QR X G true o (some (.int rv)) hz) true o 187 [(0, .ref (xa X 246)), (1, .int x1), (2, .int x2), (3, .int x3), (4, .int x4), (5, .int x5)] [] h := by
  unfold X6_calmBehindSet_187 at hF
  refine V.iinc (v := (x5 + (1))) 5 [(5, _), (0, _), (1, _), (2, _), (3, _), (4, _)] dX6_calmBehindSet_187 rfl rfl (by decide) rfl ?_
  refine V.goto (tgt := 62) dX6_calmBehindSet_190 rfl ?_
  exact V.sub [1, 2, 3, 4, 5, 0] rfl (hK62 _ _ _ _ _ _ hF)
def X6_calmBehindSet_62 (n : Nat) : Nat → Int32 → Int32 → Int32 → Int32 → Int32 → Mm → Option (Int32 × Mm)
  | 0, _, _, _, _, _, _ => none
  | f + 1, x1, x2, x3, x4, x5, h => (bp (X1_books 13 h) (fun r109 => (if r109 ≤ x5 then (some (x4, h)) else (if ((x1 >>> (x5 &&& 31)) &&& (1 : Int32)) = 0 then (X6_calmBehindSet_187 n (X6_calmBehindSet_62 n f) x1 x2 x3 x4 x5 h) else (bp (X1_pagesOf 13 x5 h) (fun r111 => (bp (X1_strengthOf 13 (h.1 27 5) h) (fun r113 => (if (x3 + r111) ≤ r113 then (bp (X1_kindOf 13 x5 h) (fun r115 => (bp (X11_at 247 r115 h) (fun r117 => (bd (X9_calmBehind n x4 x5 r111 x2 r117 (h.1 27 6) x3 h) (fun r119 h121 => (bp (X11_at 247 r115 h121) (fun r122 => (bp (X9_moreBored r122 h121) (fun r124 => (bd (X11_put 247 r115 r124 h121) (fun _ h128 => (X6_calmBehindSet_187 n (X6_calmBehindSet_62 n f) x1 x2 (x3 + r111) r119 x5 h128))))))))))))) else (some ((-1 : Int32), h)))))))))))
set_option maxRecDepth 100000 in
set_option maxHeartbeats 4000000 in
theorem v_X6_calmBehindSet_62 {X : WX} {G : GX} {o : Mm} {n : Nat} {rv : Int32} {hz : Mm} : ∀ (f : Nat) (x1 : Int32) (x2 : Int32) (x3 : Int32) (x4 : Int32) (x5 : Int32) (h : Mm), X6_calmBehindSet_62 n f x1 x2 x3 x4 x5 h = some (rv, hz) → V X G RX6 cX6_calmBehindSet 8 (some .int) 5 0 0 (QR X G true o (some (.int rv)) hz) true o 62 [(0, .ref (xa X 246)), (1, .int x1), (2, .int x2), (3, .int x3), (4, .int x4), (5, .int x5)] [] h := by
  intro f
  induction f with
  | zero => intro x1 x2 x3 x4 x5 h hF; exact nomatch (show (none : Option (Int32 × Mm)) = some (rv, hz) from hF)
  | succ f ih =>
    intro x1 x2 x3 x4 x5 h hF
    unfold X6_calmBehindSet_62 at hF
    refine V.iload 5 dX6_calmBehindSet_62 rfl ?_
    refine V.aload_n 0 dX6_calmBehindSet_64 rfl rfl ?_
    refine V.getR (v := 13) fl_X6_28 sh_246 rfl fx_246_1 (by decide) dX6_calmBehindSet_65 ?_
    obtain ⟨r109, hc110, hF⟩ := bp_s hF
    refine V.callVi mf_X1_books ml_X6_59 sh_13 (s_X1_books (Or.inr rfl) hc110) (by decide) rfl rfl (Nat.le_of_ble_eq_true rfl) dX6_calmBehindSet_68 ?_
    refine V.icmp_ge (tgt := 193) dX6_calmBehindSet_71 rfl (fun c => ?_) (fun c => ?_)
    · replace hF := ip c hF
      refine V.iload 4 dX6_calmBehindSet_193 rfl ?_
      cases hF
      exact V.iret dX6_calmBehindSet_195
    · replace hF := iq c hF
      refine V.iload_n 1 dX6_calmBehindSet_74 rfl rfl ?_
      refine V.iload 5 dX6_calmBehindSet_75 rfl ?_
      refine V.ishr dX6_calmBehindSet_77 ?_
      refine V.iconst (v := 1) dX6_calmBehindSet_78 rfl ?_
      refine V.iand dX6_calmBehindSet_79 ?_
      refine V.if_eq (tgt := 187) dX6_calmBehindSet_80 rfl (fun c => ?_) (fun c => ?_)
      · replace hF := ip c hF
        exact (v_X6_calmBehindSet_187 ih hF)
      · replace hF := iq c hF
        refine V.aload_n 0 dX6_calmBehindSet_83 rfl rfl ?_
        refine V.getR (v := 13) fl_X6_28 sh_246 rfl fx_246_1 (by decide) dX6_calmBehindSet_84 ?_
        refine V.iload 5 dX6_calmBehindSet_87 rfl ?_
        obtain ⟨r111, hc112, hF⟩ := bp_s hF
        refine V.callVi mf_X1_pagesOf ml_X6_95 sh_13 (s_X1_pagesOf (Or.inr rfl) hc112) (by decide) rfl rfl (Nat.le_of_ble_eq_true rfl) dX6_calmBehindSet_89 ?_
        refine V.istore [(6, _), (0, _), (1, _), (2, _), (3, _), (4, _), (5, _)] dX6_calmBehindSet_92 (by decide) rfl ?_
        refine V.iload_n 4 dX6_calmBehindSet_94 rfl rfl ?_
        refine V.iload 0 dX6_calmBehindSet_95 rfl ?_
        refine V.iadd dX6_calmBehindSet_97 ?_
        refine V.aload_n 1 dX6_calmBehindSet_98 rfl rfl ?_
        refine V.getR (v := 13) fl_X6_28 sh_246 rfl fx_246_1 (by decide) dX6_calmBehindSet_99 ?_
        refine V.aload_n 1 dX6_calmBehindSet_102 rfl rfl ?_
        refine V.getR (v := 27) fl_X6_34 sh_246 rfl fx_246_3 (by decide) dX6_calmBehindSet_103 ?_
        refine V.getI fl_X6_86 sh_27 rfl km_27 dX6_calmBehindSet_106 ?_
        obtain ⟨r113, hc114, hF⟩ := bp_s hF
        refine V.callVi mf_X1_strengthOf ml_X6_92 sh_13 (s_X1_strengthOf (Or.inr rfl) hc114) (by decide) rfl rfl (Nat.le_of_ble_eq_true rfl) dX6_calmBehindSet_109 ?_
        refine V.icmp_le (tgt := 117) dX6_calmBehindSet_112 rfl (fun c => ?_) (fun c => ?_)
        · replace hF := ip c hF
          refine V.aload_n 1 dX6_calmBehindSet_117 rfl rfl ?_
          refine V.getR (v := 13) fl_X6_28 sh_246 rfl fx_246_1 (by decide) dX6_calmBehindSet_118 ?_
          refine V.iload 6 dX6_calmBehindSet_121 rfl ?_
          obtain ⟨r115, hc116, hF⟩ := bp_s hF
          refine V.callVi mf_X1_kindOf ml_X6_76 sh_13 (s_X1_kindOf (Or.inr rfl) hc116) (by decide) rfl rfl (Nat.le_of_ble_eq_true rfl) dX6_calmBehindSet_123 ?_
          refine V.istore [(7, _), (6, _), (0, _), (1, _), (2, _), (3, _), (4, _), (5, _)] dX6_calmBehindSet_126 (by decide) rfl ?_
          refine V.aload_n 2 dX6_calmBehindSet_128 rfl rfl ?_
          refine V.getR (v := 26) fl_X6_18 sh_246 rfl fx_246_0 (by decide) dX6_calmBehindSet_129 ?_
          refine V.iload 6 dX6_calmBehindSet_132 rfl ?_
          refine V.iload 7 dX6_calmBehindSet_134 rfl ?_
          refine V.iload 1 dX6_calmBehindSet_136 rfl ?_
          refine V.iload_n 4 dX6_calmBehindSet_138 rfl rfl ?_
          refine V.aload_n 2 dX6_calmBehindSet_139 rfl rfl ?_
          refine V.getR (v := 247) fl_X6_9 sh_246 rfl fx_246_4 (by decide) dX6_calmBehindSet_140 ?_
          refine V.iload 0 dX6_calmBehindSet_143 rfl ?_
          obtain ⟨r117, hc118, hF⟩ := bp_s hF
          refine V.callNi mf_X11_at ml_X6_79 (s_X11_at (Or.inl io_247) hc118) (by decide) rfl rfl (Nat.le_of_ble_eq_true rfl) dX6_calmBehindSet_145 ?_
          refine V.aload_n 2 dX6_calmBehindSet_148 rfl rfl ?_
          refine V.getR (v := 27) fl_X6_34 sh_246 rfl fx_246_3 (by decide) dX6_calmBehindSet_149 ?_
          refine V.getI fl_X6_107 sh_27 rfl km_27 dX6_calmBehindSet_152 ?_
          refine V.iload_n 5 dX6_calmBehindSet_155 rfl rfl ?_
          obtain ⟨r119, h121, hc120, hF⟩ := bd_s hF
          refine V.callVi mf_X9_calmBehind ml_X6_146 sh_26 (s_X9_calmBehind hc120) (by decide) rfl rfl (Nat.le_of_ble_eq_true rfl) dX6_calmBehindSet_156 ?_
          refine V.istore [(4, _), (7, _), (6, _), (0, _), (1, _), (2, _), (3, _), (5, _)] dX6_calmBehindSet_159 (by decide) rfl ?_
          refine V.aload_n 3 dX6_calmBehindSet_161 rfl rfl ?_
          refine V.getR (v := 247) fl_X6_9 sh_246 rfl fx_246_4 (by decide) dX6_calmBehindSet_162 ?_
          refine V.iload 1 dX6_calmBehindSet_165 rfl ?_
          refine V.aload_n 3 dX6_calmBehindSet_167 rfl rfl ?_
          refine V.getR (v := 247) fl_X6_9 sh_246 rfl fx_246_4 (by decide) dX6_calmBehindSet_168 ?_
          refine V.iload 1 dX6_calmBehindSet_171 rfl ?_
          obtain ⟨r122, hc123, hF⟩ := bp_s hF
          refine V.callNi mf_X11_at ml_X6_79 (s_X11_at (Or.inl io_247) hc123) (by decide) rfl rfl (Nat.le_of_ble_eq_true rfl) dX6_calmBehindSet_173 ?_
          obtain ⟨r124, hc125, hF⟩ := bp_s hF
          refine V.callSi mf_X9_moreBored ml_X6_123 (s_X9_moreBored hc125) (by decide) rfl rfl (Nat.le_of_ble_eq_true rfl) dX6_calmBehindSet_176 ?_
          obtain ⟨r126, h128, hc127, hF⟩ := bd_s hF
          refine V.callNv mf_X11_put ml_X6_126 (s_X11_put io_247 hc127) (by decide) rfl rfl (Nat.le_of_ble_eq_true rfl) dX6_calmBehindSet_179 ?_
          refine V.iload_n 6 dX6_calmBehindSet_182 rfl rfl ?_
          refine V.iload 2 dX6_calmBehindSet_183 rfl ?_
          refine V.iadd dX6_calmBehindSet_185 ?_
          refine V.istore_n [(3, _), (4, _), (7, _), (6, _), (0, _), (1, _), (2, _), (5, _)] dX6_calmBehindSet_186 rfl (by decide) rfl ?_
          exact V.sub [4, 5, 6, 0, 1, 7] rfl (v_X6_calmBehindSet_187 ih hF)
        · replace hF := iq c hF
          refine V.iconst (v := -1) dX6_calmBehindSet_115 rfl ?_
          cases hF
          exact V.iret dX6_calmBehindSet_116
def X6_calmBehindSet (n : Nat) (x1 : Int32) (h : Mm) : Option (Int32 × Mm) := (bd (X11_copy 28 247 h) (fun _ h131 => (bp (X11_at 30 (h131.1 27 5) h131) (fun r132 => (bp (X11_at 29 (h131.1 27 5) h131) (fun r134 => (X6_calmBehindSet_62 n n x1 r132 r134 (h131.1 27 4) (0 : Int32) h131)))))))
set_option maxRecDepth 100000 in
set_option maxHeartbeats 4000000 in
theorem s_X6_calmBehindSet {X : WX} {o : Mm} {n : Nat} {x1 : Int32} {rv : Int32} {hz : Mm} {h : Mm} (hF : X6_calmBehindSet n x1 h = some (rv, hz)) : Sat X yX6_calmBehindSet cX6_calmBehindSet 8 (some .int) 5 [.ref (xa X 246), .int x1] true o h (some (.int rv)) hz := by
  unfold X6_calmBehindSet at hF
  refine Sat.mk (own := RX6) rfl (by decide +kernel) (Nat.le_of_ble_eq_true rfl) (fun G => ?_)
  refine V.sub (lv2 := [(0, _), (1, _)]) [0, 1] rfl ?_
  refine V.aload_n 0 dX6_calmBehindSet_0 rfl rfl ?_
  refine V.getR (v := 27) fl_X6_34 sh_246 rfl fx_246_3 (by decide) dX6_calmBehindSet_1 ?_
  refine V.getR (v := 28) fl_X6_45 sh_27 rfl fx_27_0 (by decide) dX6_calmBehindSet_4 ?_
  refine V.aload_n 0 dX6_calmBehindSet_7 rfl rfl ?_
  refine V.getR (v := 247) fl_X6_9 sh_246 rfl fx_246_4 (by decide) dX6_calmBehindSet_8 ?_
  obtain ⟨r129, h131, hc130, hF⟩ := bd_s hF
  refine V.callNv mf_X11_copy ml_X6_48 (s_X11_copy io_28 io_247 hc130) (by decide) rfl rfl (Nat.le_of_ble_eq_true rfl) dX6_calmBehindSet_11 ?_
  refine V.aload_n 0 dX6_calmBehindSet_14 rfl rfl ?_
  refine V.getR (v := 27) fl_X6_34 sh_246 rfl fx_246_3 (by decide) dX6_calmBehindSet_15 ?_
  refine V.getR (v := 30) fl_X6_83 sh_27 rfl fx_27_2 (by decide) dX6_calmBehindSet_18 ?_
  refine V.aload_n 0 dX6_calmBehindSet_21 rfl rfl ?_
  refine V.getR (v := 27) fl_X6_34 sh_246 rfl fx_246_3 (by decide) dX6_calmBehindSet_22 ?_
  refine V.getI fl_X6_86 sh_27 rfl km_27 dX6_calmBehindSet_25 ?_
  obtain ⟨r132, hc133, hF⟩ := bp_s hF
  refine V.callNi mf_X11_at ml_X6_79 (s_X11_at (Or.inl io_30) hc133) (by decide) rfl rfl (Nat.le_of_ble_eq_true rfl) dX6_calmBehindSet_28 ?_
  refine V.istore_n [(2, _), (0, _), (1, _)] dX6_calmBehindSet_31 rfl (by decide) rfl ?_
  refine V.aload_n 1 dX6_calmBehindSet_32 rfl rfl ?_
  refine V.getR (v := 27) fl_X6_34 sh_246 rfl fx_246_3 (by decide) dX6_calmBehindSet_33 ?_
  refine V.getR (v := 29) fl_X6_89 sh_27 rfl fx_27_1 (by decide) dX6_calmBehindSet_36 ?_
  refine V.aload_n 1 dX6_calmBehindSet_39 rfl rfl ?_
  refine V.getR (v := 27) fl_X6_34 sh_246 rfl fx_246_3 (by decide) dX6_calmBehindSet_40 ?_
  refine V.getI fl_X6_86 sh_27 rfl km_27 dX6_calmBehindSet_43 ?_
  obtain ⟨r134, hc135, hF⟩ := bp_s hF
  refine V.callNi mf_X11_at ml_X6_79 (s_X11_at (Or.inl io_29) hc135) (by decide) rfl rfl (Nat.le_of_ble_eq_true rfl) dX6_calmBehindSet_46 ?_
  refine V.istore_n [(3, _), (2, _), (0, _), (1, _)] dX6_calmBehindSet_49 rfl (by decide) rfl ?_
  refine V.aload_n 2 dX6_calmBehindSet_50 rfl rfl ?_
  refine V.getR (v := 27) fl_X6_34 sh_246 rfl fx_246_3 (by decide) dX6_calmBehindSet_51 ?_
  refine V.getI fl_X6_52 sh_27 rfl km_27 dX6_calmBehindSet_54 ?_
  refine V.istore [(4, _), (3, _), (2, _), (0, _), (1, _)] dX6_calmBehindSet_57 (by decide) rfl ?_
  refine V.iconst (v := 0) dX6_calmBehindSet_59 rfl ?_
  refine V.istore [(5, _), (4, _), (3, _), (2, _), (0, _), (1, _)] dX6_calmBehindSet_60 (by decide) rfl ?_
  exact V.sub [4, 5, 3, 2, 1, 0] rfl (v_X6_calmBehindSet_62 n _ _ _ _ _ _ hF)
/-! MonsterCot$Search.setsFor -/
theorem dX6_setsFor_0 : decode cX6_setsFor 0 = .ok (.iconst 0, 1) := by decide +kernel
theorem dX6_setsFor_1 : decode cX6_setsFor 1 = .ok (.istore_n 3, 1) := by decide +kernel
theorem dX6_setsFor_2 : decode cX6_setsFor 2 = .ok (.iconst 0, 1) := by decide +kernel
theorem dX6_setsFor_3 : decode cX6_setsFor 3 = .ok (.istore 4, 2) := by decide +kernel
theorem dX6_setsFor_5 : decode cX6_setsFor 5 = .ok (.iload 4, 2) := by decide +kernel
theorem dX6_setsFor_7 : decode cX6_setsFor 7 = .ok (.iconst 1, 1) := by decide +kernel
theorem dX6_setsFor_8 : decode cX6_setsFor 8 = .ok (.aload_n 0, 1) := by decide +kernel
theorem dX6_setsFor_9 : decode cX6_setsFor 9 = .ok (.getfield 28, 3) := by decide +kernel
theorem dX6_setsFor_12 : decode cX6_setsFor 12 = .ok (.invokevirtual 59, 3) := by decide +kernel
theorem dX6_setsFor_15 : decode cX6_setsFor 15 = .ok (.ishl, 1) := by decide +kernel
theorem dX6_setsFor_16 : decode cX6_setsFor 16 = .ok (.if_icmp .ge 43, 3) := by decide +kernel
theorem dX6_setsFor_19 : decode cX6_setsFor 19 = .ok (.iload 4, 2) := by decide +kernel
theorem dX6_setsFor_21 : decode cX6_setsFor 21 = .ok (.aload_n 0, 1) := by decide +kernel
theorem dX6_setsFor_22 : decode cX6_setsFor 22 = .ok (.getfield 34, 3) := by decide +kernel
theorem dX6_setsFor_25 : decode cX6_setsFor 25 = .ok (.getfield 65, 3) := by decide +kernel
theorem dX6_setsFor_28 : decode cX6_setsFor 28 = .ok (.iand, 1) := by decide +kernel
theorem dX6_setsFor_29 : decode cX6_setsFor 29 = .ok (.ifCond .ne 24, 3) := by decide +kernel
theorem dX6_setsFor_32 : decode cX6_setsFor 32 = .ok (.aload_n 0, 1) := by decide +kernel
theorem dX6_setsFor_33 : decode cX6_setsFor 33 = .ok (.iload 4, 2) := by decide +kernel
theorem dX6_setsFor_35 : decode cX6_setsFor 35 = .ok (.invokevirtual 159, 3) := by decide +kernel
theorem dX6_setsFor_38 : decode cX6_setsFor 38 = .ok (.iload_n 1, 1) := by decide +kernel
theorem dX6_setsFor_39 : decode cX6_setsFor 39 = .ok (.if_icmp .ne 14, 3) := by decide +kernel
theorem dX6_setsFor_42 : decode cX6_setsFor 42 = .ok (.iload_n 3, 1) := by decide +kernel
theorem dX6_setsFor_43 : decode cX6_setsFor 43 = .ok (.iload_n 2, 1) := by decide +kernel
theorem dX6_setsFor_44 : decode cX6_setsFor 44 = .ok (.if_icmp .ne 6, 3) := by decide +kernel
theorem dX6_setsFor_47 : decode cX6_setsFor 47 = .ok (.iload 4, 2) := by decide +kernel
theorem dX6_setsFor_49 : decode cX6_setsFor 49 = .ok (.ireturn, 1) := by decide +kernel
theorem dX6_setsFor_50 : decode cX6_setsFor 50 = .ok (.iinc 3 1, 3) := by decide +kernel
theorem dX6_setsFor_53 : decode cX6_setsFor 53 = .ok (.iinc 4 1, 3) := by decide +kernel
theorem dX6_setsFor_56 : decode cX6_setsFor 56 = .ok (.goto (-51), 3) := by decide +kernel
theorem dX6_setsFor_59 : decode cX6_setsFor 59 = .ok (.iload_n 2, 1) := by decide +kernel
theorem dX6_setsFor_60 : decode cX6_setsFor 60 = .ok (.iconst (-1), 1) := by decide +kernel
theorem dX6_setsFor_61 : decode cX6_setsFor 61 = .ok (.if_icmp .ne 7, 3) := by decide +kernel
theorem dX6_setsFor_64 : decode cX6_setsFor 64 = .ok (.iload_n 3, 1) := by decide +kernel
theorem dX6_setsFor_65 : decode cX6_setsFor 65 = .ok (.goto 4, 3) := by decide +kernel
theorem dX6_setsFor_68 : decode cX6_setsFor 68 = .ok (.iconst (-1), 1) := by decide +kernel
theorem dX6_setsFor_69 : decode cX6_setsFor 69 = .ok (.ireturn, 1) := by decide +kernel
def X6_setsFor_53 (n : Nat) (K5 : Int32 → Int32 → Int32 → Int32 → Mm → Option (Int32 × Mm)) (x1 : Int32) (x2 : Int32) (x3 : Int32) (x4 : Int32) (h : Mm) : Option (Int32 × Mm) := (K5 x1 x2 x3 (x4 + (1)) h)
set_option maxRecDepth 100000 in
set_option maxHeartbeats 4000000 in
theorem v_X6_setsFor_53 {X : WX} {G : GX} {o : Mm} {n : Nat} {K5 : Int32 → Int32 → Int32 → Int32 → Mm → Option (Int32 × Mm)} {rv : Int32} {hz : Mm} (hK5 : ∀ (x1 : Int32) (x2 : Int32) (x3 : Int32) (x4 : Int32) (h : Mm), K5 x1 x2 x3 x4 h = some (rv, hz) → V X G RX6 cX6_setsFor 5 (some .int) 6 0 0 (QR X G true o (some (.int rv)) hz) true o 5 [(0, .ref (xa X 246)), (1, .int x1), (2, .int x2), (3, .int x3), (4, .int x4)] [] h) {x1 : Int32} {x2 : Int32} {x3 : Int32} {x4 : Int32} {h : Mm} (hF : X6_setsFor_53 n K5 x1 x2 x3 x4 h = some (rv, hz)) : V X G RX6 cX6_setsFor 5 (some .int) 6 0 0 (QR X G true o (some (.int rv)) hz) true o 53 [(0, .ref (xa X 246)), (1, .int x1), (2, .int x2), (3, .int x3), (4, .int x4)] [] h := by
  unfold X6_setsFor_53 at hF
  refine V.iinc (v := (x4 + (1))) 4 [(4, _), (0, _), (1, _), (2, _), (3, _)] dX6_setsFor_53 rfl rfl (by decide) rfl ?_
  refine V.goto (tgt := 5) dX6_setsFor_56 rfl ?_
  exact V.sub [1, 2, 3, 4, 0] rfl (hK5 _ _ _ _ _ hF)
def X6_setsFor_5 (n : Nat) : Nat → Int32 → Int32 → Int32 → Int32 → Mm → Option (Int32 × Mm)
  | 0, _, _, _, _, _ => none
  | f + 1, x1, x2, x3, x4, h => (bp (X1_books 13 h) (fun r21 => (if ((1 : Int32) <<< (r21 &&& 31)) ≤ x4 then (if x2 = (-1 : Int32) then (some (x3, h)) else (some ((-1 : Int32), h))) else (if (x4 &&& (h.1 27 9)) = 0 then (bd (X6_calmBehindSet n x4 h) (fun r23 h25 => (if r23 = x1 then (if x3 = x2 then (some (x4, h25)) else (X6_setsFor_53 n (X6_setsFor_5 n f) x1 x2 (x3 + (1)) x4 h25)) else (X6_setsFor_53 n (X6_setsFor_5 n f) x1 x2 x3 x4 h25)))) else (X6_setsFor_53 n (X6_setsFor_5 n f) x1 x2 x3 x4 h)))))
set_option maxRecDepth 100000 in
set_option maxHeartbeats 4000000 in
theorem v_X6_setsFor_5 {X : WX} {G : GX} {o : Mm} {n : Nat} {rv : Int32} {hz : Mm} : ∀ (f : Nat) (x1 : Int32) (x2 : Int32) (x3 : Int32) (x4 : Int32) (h : Mm), X6_setsFor_5 n f x1 x2 x3 x4 h = some (rv, hz) → V X G RX6 cX6_setsFor 5 (some .int) 6 0 0 (QR X G true o (some (.int rv)) hz) true o 5 [(0, .ref (xa X 246)), (1, .int x1), (2, .int x2), (3, .int x3), (4, .int x4)] [] h := by
  intro f
  induction f with
  | zero => intro x1 x2 x3 x4 h hF; exact nomatch (show (none : Option (Int32 × Mm)) = some (rv, hz) from hF)
  | succ f ih =>
    intro x1 x2 x3 x4 h hF
    unfold X6_setsFor_5 at hF
    refine V.iload 4 dX6_setsFor_5 rfl ?_
    refine V.iconst (v := 1) dX6_setsFor_7 rfl ?_
    refine V.aload_n 0 dX6_setsFor_8 rfl rfl ?_
    refine V.getR (v := 13) fl_X6_28 sh_246 rfl fx_246_1 (by decide) dX6_setsFor_9 ?_
    obtain ⟨r21, hc22, hF⟩ := bp_s hF
    refine V.callVi mf_X1_books ml_X6_59 sh_13 (s_X1_books (Or.inr rfl) hc22) (by decide) rfl rfl (Nat.le_of_ble_eq_true rfl) dX6_setsFor_12 ?_
    refine V.ishl dX6_setsFor_15 ?_
    refine V.icmp_ge (tgt := 59) dX6_setsFor_16 rfl (fun c => ?_) (fun c => ?_)
    · replace hF := ip c hF
      refine V.iload_n 2 dX6_setsFor_59 rfl rfl ?_
      refine V.iconst (v := -1) dX6_setsFor_60 rfl ?_
      refine V.icmp_ne (tgt := 68) dX6_setsFor_61 rfl (fun c => ?_) (fun c => ?_)
      · replace hF := iq c hF
        refine V.iconst (v := -1) dX6_setsFor_68 rfl ?_
        cases hF
        exact V.iret dX6_setsFor_69
      · replace hF := ip c hF
        refine V.iload_n 3 dX6_setsFor_64 rfl rfl ?_
        refine V.goto (tgt := 69) dX6_setsFor_65 rfl ?_
        cases hF
        exact V.iret dX6_setsFor_69
    · replace hF := iq c hF
      refine V.iload 4 dX6_setsFor_19 rfl ?_
      refine V.aload_n 0 dX6_setsFor_21 rfl rfl ?_
      refine V.getR (v := 27) fl_X6_34 sh_246 rfl fx_246_3 (by decide) dX6_setsFor_22 ?_
      refine V.getI fl_X6_65 sh_27 rfl km_27 dX6_setsFor_25 ?_
      refine V.iand dX6_setsFor_28 ?_
      refine V.if_ne (tgt := 53) dX6_setsFor_29 rfl (fun c => ?_) (fun c => ?_)
      · replace hF := iq c hF
        exact (v_X6_setsFor_53 ih hF)
      · replace hF := ip c hF
        refine V.aload_n 0 dX6_setsFor_32 rfl rfl ?_
        refine V.iload 4 dX6_setsFor_33 rfl ?_
        obtain ⟨r23, h25, hc24, hF⟩ := bd_s hF
        refine V.callVi mf_X6_calmBehindSet ml_X6_159 sh_246 (s_X6_calmBehindSet hc24) (by decide) rfl rfl (Nat.le_of_ble_eq_true rfl) dX6_setsFor_35 ?_
        refine V.iload_n 1 dX6_setsFor_38 rfl rfl ?_
        refine V.icmp_ne (tgt := 53) dX6_setsFor_39 rfl (fun c => ?_) (fun c => ?_)
        · replace hF := iq c hF
          exact (v_X6_setsFor_53 ih hF)
        · replace hF := ip c hF
          refine V.iload_n 3 dX6_setsFor_42 rfl rfl ?_
          refine V.iload_n 2 dX6_setsFor_43 rfl rfl ?_
          refine V.icmp_ne (tgt := 50) dX6_setsFor_44 rfl (fun c => ?_) (fun c => ?_)
          · replace hF := iq c hF
            refine V.iinc (v := (x3 + (1))) 3 [(3, _), (0, _), (1, _), (2, _), (4, _)] dX6_setsFor_50 rfl rfl (by decide) rfl ?_
            exact V.sub [1, 2, 3, 0, 4] rfl (v_X6_setsFor_53 ih hF)
          · replace hF := ip c hF
            refine V.iload 4 dX6_setsFor_47 rfl ?_
            cases hF
            exact V.iret dX6_setsFor_49
def X6_setsFor (n : Nat) (x1 : Int32) (x2 : Int32) (h : Mm) : Option (Int32 × Mm) := (X6_setsFor_5 n n x1 x2 (0 : Int32) (0 : Int32) h)
set_option maxRecDepth 100000 in
set_option maxHeartbeats 4000000 in
theorem s_X6_setsFor {X : WX} {o : Mm} {n : Nat} {x1 : Int32} {x2 : Int32} {rv : Int32} {hz : Mm} {h : Mm} (hF : X6_setsFor n x1 x2 h = some (rv, hz)) : Sat X yX6_setsFor cX6_setsFor 5 (some .int) 6 [.ref (xa X 246), .int x1, .int x2] true o h (some (.int rv)) hz := by
  unfold X6_setsFor at hF
  refine Sat.mk (own := RX6) rfl (by decide +kernel) (Nat.le_of_ble_eq_true rfl) (fun G => ?_)
  refine V.sub (lv2 := [(0, _), (1, _), (2, _)]) [0, 1, 2] rfl ?_
  refine V.iconst (v := 0) dX6_setsFor_0 rfl ?_
  refine V.istore_n [(3, _), (0, _), (1, _), (2, _)] dX6_setsFor_1 rfl (by decide) rfl ?_
  refine V.iconst (v := 0) dX6_setsFor_2 rfl ?_
  refine V.istore [(4, _), (3, _), (0, _), (1, _), (2, _)] dX6_setsFor_3 (by decide) rfl ?_
  exact V.sub [2, 3, 4, 1, 0] rfl (v_X6_setsFor_5 n _ _ _ _ _ hF)
/-! MonsterCot.which -/
theorem dX11_which_0 : decode cX11_which 0 = .ok (.aload_n 0, 1) := by decide +kernel
theorem dX11_which_1 : decode cX11_which 1 = .ok (.getfield 42, 3) := by decide +kernel
theorem dX11_which_4 : decode cX11_which 4 = .ok (.invokevirtual 124, 3) := by decide +kernel
theorem dX11_which_7 : decode cX11_which 7 = .ok (.ifCond .eq 25, 3) := by decide +kernel
theorem dX11_which_10 : decode cX11_which 10 = .ok (.iload_n 1, 1) := by decide +kernel
theorem dX11_which_11 : decode cX11_which 11 = .ok (.ifCond .lt 21, 3) := by decide +kernel
theorem dX11_which_14 : decode cX11_which 14 = .ok (.iload_n 1, 1) := by decide +kernel
theorem dX11_which_15 : decode cX11_which 15 = .ok (.bipush 99, 2) := by decide +kernel
theorem dX11_which_17 : decode cX11_which 17 = .ok (.if_icmp .gt 15, 3) := by decide +kernel
theorem dX11_which_20 : decode cX11_which 20 = .ok (.aload_n 0, 1) := by decide +kernel
theorem dX11_which_21 : decode cX11_which 21 = .ok (.getfield 84, 3) := by decide +kernel
theorem dX11_which_24 : decode cX11_which 24 = .ok (.iload_n 1, 1) := by decide +kernel
theorem dX11_which_25 : decode cX11_which 25 = .ok (.iload_n 2, 1) := by decide +kernel
theorem dX11_which_26 : decode cX11_which 26 = .ok (.invokevirtual 327, 3) := by decide +kernel
theorem dX11_which_29 : decode cX11_which 29 = .ok (.goto 4, 3) := by decide +kernel
theorem dX11_which_32 : decode cX11_which 32 = .ok (.iconst (-1), 1) := by decide +kernel
theorem dX11_which_33 : decode cX11_which 33 = .ok (.ireturn, 1) := by decide +kernel
def X11_which (n : Nat) (x1 : Int32) (x2 : Int32) (h : Mm) : Option (Int32 × Mm) := (bp (X1_stands 13 h) (fun r6 => (if r6 = true then (if x1 < 0 then (some ((-1 : Int32), h)) else (if (99 : Int32) < x1 then (some ((-1 : Int32), h)) else (bd (X6_setsFor n x1 x2 h) (fun r8 h10 => (some (r8, h10)))))) else (some ((-1 : Int32), h)))))
set_option maxRecDepth 100000 in
set_option maxHeartbeats 4000000 in
theorem s_X11_which {X : WX} {o : Mm} {n : Nat} {x1 : Int32} {x2 : Int32} {rv : Int32} {hz : Mm} {h : Mm} (hF : X11_which n x1 x2 h = some (rv, hz)) : Sat X yX11_which cX11_which 3 (some .int) 7 [.ref (xa X 0), .int x1, .int x2] true o h (some (.int rv)) hz := by
  unfold X11_which at hF
  refine Sat.mk (own := RX11) rfl (by decide +kernel) (Nat.le_of_ble_eq_true rfl) (fun G => ?_)
  refine V.sub (lv2 := [(0, _), (1, _), (2, _)]) [0, 1, 2] rfl ?_
  refine V.aload_n 0 dX11_which_0 rfl rfl ?_
  refine V.getR (v := 13) fl_X11_42 sh_0 rfl fx_0_4 (by decide) dX11_which_1 ?_
  obtain ⟨r6, hc7, hF⟩ := bp_s hF
  refine V.callVi mf_X1_stands ml_X11_124 sh_13 (s_X1_stands (Or.inr rfl) hc7) (by decide) rfl rfl (Nat.le_of_ble_eq_true rfl) dX11_which_4 ?_
  refine V.ifz_eq (tgt := 32) dX11_which_7 rfl (fun c => ?_) (fun c => ?_)
  · replace hF := iq c hF
    refine V.iconst (v := -1) dX11_which_32 rfl ?_
    cases hF
    exact V.iret dX11_which_33
  · replace hF := ip c hF
    refine V.iload_n 1 dX11_which_10 rfl rfl ?_
    refine V.if_lt (tgt := 32) dX11_which_11 rfl (fun c => ?_) (fun c => ?_)
    · replace hF := ip c hF
      refine V.iconst (v := -1) dX11_which_32 rfl ?_
      cases hF
      exact V.iret dX11_which_33
    · replace hF := iq c hF
      refine V.iload_n 1 dX11_which_14 rfl rfl ?_
      refine V.bipush (v := 99) dX11_which_15 (by decide) ?_
      refine V.icmp_gt (tgt := 32) dX11_which_17 rfl (fun c => ?_) (fun c => ?_)
      · replace hF := ip c hF
        refine V.iconst (v := -1) dX11_which_32 rfl ?_
        cases hF
        exact V.iret dX11_which_33
      · replace hF := iq c hF
        refine V.aload_n 0 dX11_which_20 rfl rfl ?_
        refine V.getR (v := 246) fl_X11_84 sh_0 rfl fx_0_10 (by decide) dX11_which_21 ?_
        refine V.iload_n 1 dX11_which_24 rfl rfl ?_
        refine V.iload_n 2 dX11_which_25 rfl rfl ?_
        obtain ⟨r8, h10, hc9, hF⟩ := bd_s hF
        refine V.callVi mf_X6_setsFor ml_X11_327 sh_246 (s_X6_setsFor hc9) (by decide) rfl rfl (Nat.le_of_ble_eq_true rfl) dX11_which_26 ?_
        refine V.goto (tgt := 33) dX11_which_29 rfl ?_
        cases hF
        exact V.iret dX11_which_33
/-! MonsterCot.canPlay -/
theorem dX11_canPlay_0 : decode cX11_canPlay 0 = .ok (.aload_n 0, 1) := by decide +kernel
theorem dX11_canPlay_1 : decode cX11_canPlay 1 = .ok (.getfield 42, 3) := by decide +kernel
theorem dX11_canPlay_4 : decode cX11_canPlay 4 = .ok (.iload_n 1, 1) := by decide +kernel
theorem dX11_canPlay_5 : decode cX11_canPlay 5 = .ok (.invokevirtual 153, 3) := by decide +kernel
theorem dX11_canPlay_8 : decode cX11_canPlay 8 = .ok (.ifCond .eq 34, 3) := by decide +kernel
theorem dX11_canPlay_11 : decode cX11_canPlay 11 = .ok (.aload_n 0, 1) := by decide +kernel
theorem dX11_canPlay_12 : decode cX11_canPlay 12 = .ok (.getfield 42, 3) := by decide +kernel
theorem dX11_canPlay_15 : decode cX11_canPlay 15 = .ok (.iload_n 2, 1) := by decide +kernel
theorem dX11_canPlay_16 : decode cX11_canPlay 16 = .ok (.invokevirtual 153, 3) := by decide +kernel
theorem dX11_canPlay_19 : decode cX11_canPlay 19 = .ok (.ifCond .eq 23, 3) := by decide +kernel
theorem dX11_canPlay_22 : decode cX11_canPlay 22 = .ok (.iload_n 1, 1) := by decide +kernel
theorem dX11_canPlay_23 : decode cX11_canPlay 23 = .ok (.iload_n 2, 1) := by decide +kernel
theorem dX11_canPlay_24 : decode cX11_canPlay 24 = .ok (.if_icmp .eq 18, 3) := by decide +kernel
theorem dX11_canPlay_27 : decode cX11_canPlay 27 = .ok (.aload_n 0, 1) := by decide +kernel
theorem dX11_canPlay_28 : decode cX11_canPlay 28 = .ok (.getfield 42, 3) := by decide +kernel
theorem dX11_canPlay_31 : decode cX11_canPlay 31 = .ok (.iload_n 3, 1) := by decide +kernel
theorem dX11_canPlay_32 : decode cX11_canPlay 32 = .ok (.invokevirtual 137, 3) := by decide +kernel
theorem dX11_canPlay_35 : decode cX11_canPlay 35 = .ok (.ifCond .eq 7, 3) := by decide +kernel
theorem dX11_canPlay_38 : decode cX11_canPlay 38 = .ok (.iconst 1, 1) := by decide +kernel
theorem dX11_canPlay_39 : decode cX11_canPlay 39 = .ok (.goto 4, 3) := by decide +kernel
theorem dX11_canPlay_42 : decode cX11_canPlay 42 = .ok (.iconst 0, 1) := by decide +kernel
theorem dX11_canPlay_43 : decode cX11_canPlay 43 = .ok (.ireturn, 1) := by decide +kernel
def X11_canPlay (x1 : Int32) (x2 : Int32) (x3 : Int32) (h : Mm) : Option Bool := (bp (X1_hasHouse 13 x1 h) (fun r7 => (if r7 = true then (bp (X1_hasHouse 13 x2 h) (fun r9 => (if r9 = true then (if x1 = x2 then (some false) else (bp (X1_hasBook 13 x3 h) (fun r11 => (if r11 = true then (some true) else (some false))))) else (some false)))) else (some false))))
set_option maxRecDepth 100000 in
set_option maxHeartbeats 4000000 in
theorem s_X11_canPlay {X : WX} {o : Mm} {x1 : Int32} {x2 : Int32} {x3 : Int32} {rv : Bool} {h : Mm} (hF : X11_canPlay x1 x2 x3 h = some rv) : Sat X yX11_canPlay cX11_canPlay 4 (some .boolean) 4 [.ref (xa X 0), .int x1, .int x2, .int x3] true o h (some (.int (b2i rv))) h := by
  unfold X11_canPlay at hF
  refine Sat.mk (own := RX11) rfl (by decide +kernel) (Nat.le_of_ble_eq_true rfl) (fun G => ?_)
  refine V.sub (lv2 := [(0, _), (1, _), (2, _), (3, _)]) [0, 1, 2, 3] rfl ?_
  refine V.aload_n 0 dX11_canPlay_0 rfl rfl ?_
  refine V.getR (v := 13) fl_X11_42 sh_0 rfl fx_0_4 (by decide) dX11_canPlay_1 ?_
  refine V.iload_n 1 dX11_canPlay_4 rfl rfl ?_
  obtain ⟨r7, hc8, hF⟩ := bp_s hF
  refine V.callVi mf_X1_hasHouse ml_X11_153 sh_13 (s_X1_hasHouse (Or.inr rfl) hc8) (by decide) rfl rfl (Nat.le_of_ble_eq_true rfl) dX11_canPlay_5 ?_
  refine V.ifz_eq (tgt := 42) dX11_canPlay_8 rfl (fun c => ?_) (fun c => ?_)
  · replace hF := iq c hF
    refine V.iconst (v := 0) dX11_canPlay_42 rfl ?_
    cases hF
    exact V.bret dX11_canPlay_43
  · replace hF := ip c hF
    refine V.aload_n 0 dX11_canPlay_11 rfl rfl ?_
    refine V.getR (v := 13) fl_X11_42 sh_0 rfl fx_0_4 (by decide) dX11_canPlay_12 ?_
    refine V.iload_n 2 dX11_canPlay_15 rfl rfl ?_
    obtain ⟨r9, hc10, hF⟩ := bp_s hF
    refine V.callVi mf_X1_hasHouse ml_X11_153 sh_13 (s_X1_hasHouse (Or.inr rfl) hc10) (by decide) rfl rfl (Nat.le_of_ble_eq_true rfl) dX11_canPlay_16 ?_
    refine V.ifz_eq (tgt := 42) dX11_canPlay_19 rfl (fun c => ?_) (fun c => ?_)
    · replace hF := iq c hF
      refine V.iconst (v := 0) dX11_canPlay_42 rfl ?_
      cases hF
      exact V.bret dX11_canPlay_43
    · replace hF := ip c hF
      refine V.iload_n 1 dX11_canPlay_22 rfl rfl ?_
      refine V.iload_n 2 dX11_canPlay_23 rfl rfl ?_
      refine V.icmp_eq (tgt := 42) dX11_canPlay_24 rfl (fun c => ?_) (fun c => ?_)
      · replace hF := ip c hF
        refine V.iconst (v := 0) dX11_canPlay_42 rfl ?_
        cases hF
        exact V.bret dX11_canPlay_43
      · replace hF := iq c hF
        refine V.aload_n 0 dX11_canPlay_27 rfl rfl ?_
        refine V.getR (v := 13) fl_X11_42 sh_0 rfl fx_0_4 (by decide) dX11_canPlay_28 ?_
        refine V.iload_n 3 dX11_canPlay_31 rfl rfl ?_
        obtain ⟨r11, hc12, hF⟩ := bp_s hF
        refine V.callVi mf_X1_hasBook ml_X11_137 sh_13 (s_X1_hasBook (Or.inr rfl) hc12) (by decide) rfl rfl (Nat.le_of_ble_eq_true rfl) dX11_canPlay_32 ?_
        refine V.ifz_eq (tgt := 42) dX11_canPlay_35 rfl (fun c => ?_) (fun c => ?_)
        · replace hF := iq c hF
          refine V.iconst (v := 0) dX11_canPlay_42 rfl ?_
          cases hF
          exact V.bret dX11_canPlay_43
        · replace hF := ip c hF
          refine V.iconst (v := 1) dX11_canPlay_38 rfl ?_
          refine V.goto (tgt := 43) dX11_canPlay_39 rfl ?_
          cases hF
          exact V.bret dX11_canPlay_43
/-! MonsterCot$Search.enoughBehind -/
theorem dX6_enoughBehind_0 : decode cX6_enoughBehind 0 = .ok (.aload_n 0, 1) := by decide +kernel
theorem dX6_enoughBehind_1 : decode cX6_enoughBehind 1 = .ok (.getfield 34, 3) := by decide +kernel
theorem dX6_enoughBehind_4 : decode cX6_enoughBehind 4 = .ok (.getfield 45, 3) := by decide +kernel
theorem dX6_enoughBehind_7 : decode cX6_enoughBehind 7 = .ok (.aload_n 0, 1) := by decide +kernel
theorem dX6_enoughBehind_8 : decode cX6_enoughBehind 8 = .ok (.getfield 28, 3) := by decide +kernel
theorem dX6_enoughBehind_11 : decode cX6_enoughBehind 11 = .ok (.iload_n 3, 1) := by decide +kernel
theorem dX6_enoughBehind_12 : decode cX6_enoughBehind 12 = .ok (.invokevirtual 76, 3) := by decide +kernel
theorem dX6_enoughBehind_15 : decode cX6_enoughBehind 15 = .ok (.invokestatic 79, 3) := by decide +kernel
theorem dX6_enoughBehind_18 : decode cX6_enoughBehind 18 = .ok (.istore 6, 2) := by decide +kernel
theorem dX6_enoughBehind_20 : decode cX6_enoughBehind 20 = .ok (.iload 4, 2) := by decide +kernel
theorem dX6_enoughBehind_22 : decode cX6_enoughBehind 22 = .ok (.ifCond .ne 8, 3) := by decide +kernel
theorem dX6_enoughBehind_25 : decode cX6_enoughBehind 25 = .ok (.iload 6, 2) := by decide +kernel
theorem dX6_enoughBehind_27 : decode cX6_enoughBehind 27 = .ok (.goto 8, 3) := by decide +kernel
theorem dX6_enoughBehind_30 : decode cX6_enoughBehind 30 = .ok (.iload 6, 2) := by decide +kernel
theorem dX6_enoughBehind_32 : decode cX6_enoughBehind 32 = .ok (.invokestatic 123, 3) := by decide +kernel
theorem dX6_enoughBehind_35 : decode cX6_enoughBehind 35 = .ok (.istore 7, 2) := by decide +kernel
theorem dX6_enoughBehind_37 : decode cX6_enoughBehind 37 = .ok (.aload_n 0, 1) := by decide +kernel
theorem dX6_enoughBehind_38 : decode cX6_enoughBehind 38 = .ok (.getfield 18, 3) := by decide +kernel
theorem dX6_enoughBehind_41 : decode cX6_enoughBehind 41 = .ok (.aload_n 0, 1) := by decide +kernel
theorem dX6_enoughBehind_42 : decode cX6_enoughBehind 42 = .ok (.getfield 34, 3) := by decide +kernel
theorem dX6_enoughBehind_45 : decode cX6_enoughBehind 45 = .ok (.getfield 52, 3) := by decide +kernel
theorem dX6_enoughBehind_48 : decode cX6_enoughBehind 48 = .ok (.iload_n 3, 1) := by decide +kernel
theorem dX6_enoughBehind_49 : decode cX6_enoughBehind 49 = .ok (.iload 4, 2) := by decide +kernel
theorem dX6_enoughBehind_51 : decode cX6_enoughBehind 51 = .ok (.aload_n 0, 1) := by decide +kernel
theorem dX6_enoughBehind_52 : decode cX6_enoughBehind 52 = .ok (.getfield 34, 3) := by decide +kernel
theorem dX6_enoughBehind_55 : decode cX6_enoughBehind 55 = .ok (.getfield 83, 3) := by decide +kernel
theorem dX6_enoughBehind_58 : decode cX6_enoughBehind 58 = .ok (.iload_n 1, 1) := by decide +kernel
theorem dX6_enoughBehind_59 : decode cX6_enoughBehind 59 = .ok (.invokestatic 79, 3) := by decide +kernel
theorem dX6_enoughBehind_62 : decode cX6_enoughBehind 62 = .ok (.iload 6, 2) := by decide +kernel
theorem dX6_enoughBehind_64 : decode cX6_enoughBehind 64 = .ok (.aload_n 0, 1) := by decide +kernel
theorem dX6_enoughBehind_65 : decode cX6_enoughBehind 65 = .ok (.getfield 34, 3) := by decide +kernel
theorem dX6_enoughBehind_68 : decode cX6_enoughBehind 68 = .ok (.getfield 107, 3) := by decide +kernel
theorem dX6_enoughBehind_71 : decode cX6_enoughBehind 71 = .ok (.aload_n 0, 1) := by decide +kernel
theorem dX6_enoughBehind_72 : decode cX6_enoughBehind 72 = .ok (.getfield 34, 3) := by decide +kernel
theorem dX6_enoughBehind_75 : decode cX6_enoughBehind 75 = .ok (.getfield 89, 3) := by decide +kernel
theorem dX6_enoughBehind_78 : decode cX6_enoughBehind 78 = .ok (.iload_n 1, 1) := by decide +kernel
theorem dX6_enoughBehind_79 : decode cX6_enoughBehind 79 = .ok (.invokestatic 79, 3) := by decide +kernel
theorem dX6_enoughBehind_82 : decode cX6_enoughBehind 82 = .ok (.invokevirtual 146, 3) := by decide +kernel
theorem dX6_enoughBehind_85 : decode cX6_enoughBehind 85 = .ok (.istore 8, 2) := by decide +kernel
theorem dX6_enoughBehind_87 : decode cX6_enoughBehind 87 = .ok (.aload_n 0, 1) := by decide +kernel
theorem dX6_enoughBehind_88 : decode cX6_enoughBehind 88 = .ok (.getfield 18, 3) := by decide +kernel
theorem dX6_enoughBehind_91 : decode cX6_enoughBehind 91 = .ok (.iload 8, 2) := by decide +kernel
theorem dX6_enoughBehind_93 : decode cX6_enoughBehind 93 = .ok (.iload_n 3, 1) := by decide +kernel
theorem dX6_enoughBehind_94 : decode cX6_enoughBehind 94 = .ok (.iload 5, 2) := by decide +kernel
theorem dX6_enoughBehind_96 : decode cX6_enoughBehind 96 = .ok (.aload_n 0, 1) := by decide +kernel
theorem dX6_enoughBehind_97 : decode cX6_enoughBehind 97 = .ok (.getfield 34, 3) := by decide +kernel
theorem dX6_enoughBehind_100 : decode cX6_enoughBehind 100 = .ok (.getfield 83, 3) := by decide +kernel
theorem dX6_enoughBehind_103 : decode cX6_enoughBehind 103 = .ok (.iload_n 2, 1) := by decide +kernel
theorem dX6_enoughBehind_104 : decode cX6_enoughBehind 104 = .ok (.invokestatic 79, 3) := by decide +kernel
theorem dX6_enoughBehind_107 : decode cX6_enoughBehind 107 = .ok (.iload 7, 2) := by decide +kernel
theorem dX6_enoughBehind_109 : decode cX6_enoughBehind 109 = .ok (.aload_n 0, 1) := by decide +kernel
theorem dX6_enoughBehind_110 : decode cX6_enoughBehind 110 = .ok (.getfield 34, 3) := by decide +kernel
theorem dX6_enoughBehind_113 : decode cX6_enoughBehind 113 = .ok (.getfield 107, 3) := by decide +kernel
theorem dX6_enoughBehind_116 : decode cX6_enoughBehind 116 = .ok (.aload_n 0, 1) := by decide +kernel
theorem dX6_enoughBehind_117 : decode cX6_enoughBehind 117 = .ok (.getfield 34, 3) := by decide +kernel
theorem dX6_enoughBehind_120 : decode cX6_enoughBehind 120 = .ok (.getfield 89, 3) := by decide +kernel
theorem dX6_enoughBehind_123 : decode cX6_enoughBehind 123 = .ok (.iload_n 2, 1) := by decide +kernel
theorem dX6_enoughBehind_124 : decode cX6_enoughBehind 124 = .ok (.invokestatic 79, 3) := by decide +kernel
theorem dX6_enoughBehind_127 : decode cX6_enoughBehind 127 = .ok (.invokevirtual 146, 3) := by decide +kernel
theorem dX6_enoughBehind_130 : decode cX6_enoughBehind 130 = .ok (.istore 8, 2) := by decide +kernel
theorem dX6_enoughBehind_132 : decode cX6_enoughBehind 132 = .ok (.iload 8, 2) := by decide +kernel
theorem dX6_enoughBehind_134 : decode cX6_enoughBehind 134 = .ok (.aload_n 0, 1) := by decide +kernel
theorem dX6_enoughBehind_135 : decode cX6_enoughBehind 135 = .ok (.getfield 28, 3) := by decide +kernel
theorem dX6_enoughBehind_138 : decode cX6_enoughBehind 138 = .ok (.invokevirtual 104, 3) := by decide +kernel
theorem dX6_enoughBehind_141 : decode cX6_enoughBehind 141 = .ok (.if_icmp .lt 7, 3) := by decide +kernel
theorem dX6_enoughBehind_144 : decode cX6_enoughBehind 144 = .ok (.iconst 1, 1) := by decide +kernel
theorem dX6_enoughBehind_145 : decode cX6_enoughBehind 145 = .ok (.goto 4, 3) := by decide +kernel
theorem dX6_enoughBehind_148 : decode cX6_enoughBehind 148 = .ok (.iconst 0, 1) := by decide +kernel
theorem dX6_enoughBehind_149 : decode cX6_enoughBehind 149 = .ok (.ireturn, 1) := by decide +kernel
def X6_enoughBehind_35 (n : Nat) (x1 : Int32) (x2 : Int32) (x3 : Int32) (x4 : Int32) (x5 : Int32) (x6 : Int32) (s0 : Int32) (h : Mm) : Option (Bool × Mm) := (bp (X11_at 30 x1 h) (fun r45 => (bp (X11_at 29 x1 h) (fun r47 => (bd (X9_calmBehind n (h.1 27 4) x3 x4 r45 x6 (h.1 27 6) r47 h) (fun r49 h51 => (bp (X11_at 30 x2 h51) (fun r52 => (bp (X11_at 29 x2 h51) (fun r54 => (bd (X9_calmBehind n r49 x3 x5 r52 s0 (h51.1 27 6) r54 h51) (fun r56 h58 => (bp (X1_enough 13 h58) (fun r59 => (if r56 < r59 then (some (false, h58)) else (some (true, h58)))))))))))))))))
set_option maxRecDepth 100000 in
set_option maxHeartbeats 4000000 in
theorem v_X6_enoughBehind_35 {X : WX} {G : GX} {o : Mm} {n : Nat} {rv : Bool} {hz : Mm} {x1 : Int32} {x2 : Int32} {x3 : Int32} {x4 : Int32} {x5 : Int32} {x6 : Int32} {s0 : Int32} {h : Mm} (hF : X6_enoughBehind_35 n x1 x2 x3 x4 x5 x6 s0 h = some (rv, hz)) : V X G RX6 cX6_enoughBehind 9 (some .boolean) 5 0 0 (QR X G true o (some (.int (b2i rv))) hz) true o 35 [(0, .ref (xa X 246)), (1, .int x1), (2, .int x2), (3, .int x3), (4, .int x4), (5, .int x5), (6, .int x6)] [.int s0] h := by
  unfold X6_enoughBehind_35 at hF
  refine V.istore [(7, _), (0, _), (1, _), (2, _), (3, _), (4, _), (5, _), (6, _)] dX6_enoughBehind_35 (by decide) rfl ?_
  refine V.aload_n 1 dX6_enoughBehind_37 rfl rfl ?_
  refine V.getR (v := 26) fl_X6_18 sh_246 rfl fx_246_0 (by decide) dX6_enoughBehind_38 ?_
  refine V.aload_n 1 dX6_enoughBehind_41 rfl rfl ?_
  refine V.getR (v := 27) fl_X6_34 sh_246 rfl fx_246_3 (by decide) dX6_enoughBehind_42 ?_
  refine V.getI fl_X6_52 sh_27 rfl km_27 dX6_enoughBehind_45 ?_
  refine V.iload_n 4 dX6_enoughBehind_48 rfl rfl ?_
  refine V.iload 5 dX6_enoughBehind_49 rfl ?_
  refine V.aload_n 1 dX6_enoughBehind_51 rfl rfl ?_
  refine V.getR (v := 27) fl_X6_34 sh_246 rfl fx_246_3 (by decide) dX6_enoughBehind_52 ?_
  refine V.getR (v := 30) fl_X6_83 sh_27 rfl fx_27_2 (by decide) dX6_enoughBehind_55 ?_
  refine V.iload_n 2 dX6_enoughBehind_58 rfl rfl ?_
  obtain ⟨r45, hc46, hF⟩ := bp_s hF
  refine V.callNi mf_X11_at ml_X6_79 (s_X11_at (Or.inl io_30) hc46) (by decide) rfl rfl (Nat.le_of_ble_eq_true rfl) dX6_enoughBehind_59 ?_
  refine V.iload 7 dX6_enoughBehind_62 rfl ?_
  refine V.aload_n 1 dX6_enoughBehind_64 rfl rfl ?_
  refine V.getR (v := 27) fl_X6_34 sh_246 rfl fx_246_3 (by decide) dX6_enoughBehind_65 ?_
  refine V.getI fl_X6_107 sh_27 rfl km_27 dX6_enoughBehind_68 ?_
  refine V.aload_n 1 dX6_enoughBehind_71 rfl rfl ?_
  refine V.getR (v := 27) fl_X6_34 sh_246 rfl fx_246_3 (by decide) dX6_enoughBehind_72 ?_
  refine V.getR (v := 29) fl_X6_89 sh_27 rfl fx_27_1 (by decide) dX6_enoughBehind_75 ?_
  refine V.iload_n 2 dX6_enoughBehind_78 rfl rfl ?_
  obtain ⟨r47, hc48, hF⟩ := bp_s hF
  refine V.callNi mf_X11_at ml_X6_79 (s_X11_at (Or.inl io_29) hc48) (by decide) rfl rfl (Nat.le_of_ble_eq_true rfl) dX6_enoughBehind_79 ?_
  obtain ⟨r49, h51, hc50, hF⟩ := bd_s hF
  refine V.callVi mf_X9_calmBehind ml_X6_146 sh_26 (s_X9_calmBehind hc50) (by decide) rfl rfl (Nat.le_of_ble_eq_true rfl) dX6_enoughBehind_82 ?_
  refine V.istore [(8, _), (7, _), (0, _), (1, _), (2, _), (3, _), (4, _), (5, _), (6, _)] dX6_enoughBehind_85 (by decide) rfl ?_
  refine V.aload_n 2 dX6_enoughBehind_87 rfl rfl ?_
  refine V.getR (v := 26) fl_X6_18 sh_246 rfl fx_246_0 (by decide) dX6_enoughBehind_88 ?_
  refine V.iload 0 dX6_enoughBehind_91 rfl ?_
  refine V.iload_n 5 dX6_enoughBehind_93 rfl rfl ?_
  refine V.iload 7 dX6_enoughBehind_94 rfl ?_
  refine V.aload_n 2 dX6_enoughBehind_96 rfl rfl ?_
  refine V.getR (v := 27) fl_X6_34 sh_246 rfl fx_246_3 (by decide) dX6_enoughBehind_97 ?_
  refine V.getR (v := 30) fl_X6_83 sh_27 rfl fx_27_2 (by decide) dX6_enoughBehind_100 ?_
  refine V.iload_n 4 dX6_enoughBehind_103 rfl rfl ?_
  obtain ⟨r52, hc53, hF⟩ := bp_s hF
  refine V.callNi mf_X11_at ml_X6_79 (s_X11_at (Or.inl io_30) hc53) (by decide) rfl rfl (Nat.le_of_ble_eq_true rfl) dX6_enoughBehind_104 ?_
  refine V.iload 1 dX6_enoughBehind_107 rfl ?_
  refine V.aload_n 2 dX6_enoughBehind_109 rfl rfl ?_
  refine V.getR (v := 27) fl_X6_34 sh_246 rfl fx_246_3 (by decide) dX6_enoughBehind_110 ?_
  refine V.getI fl_X6_107 sh_27 rfl km_27 dX6_enoughBehind_113 ?_
  refine V.aload_n 2 dX6_enoughBehind_116 rfl rfl ?_
  refine V.getR (v := 27) fl_X6_34 sh_246 rfl fx_246_3 (by decide) dX6_enoughBehind_117 ?_
  refine V.getR (v := 29) fl_X6_89 sh_27 rfl fx_27_1 (by decide) dX6_enoughBehind_120 ?_
  refine V.iload_n 4 dX6_enoughBehind_123 rfl rfl ?_
  obtain ⟨r54, hc55, hF⟩ := bp_s hF
  refine V.callNi mf_X11_at ml_X6_79 (s_X11_at (Or.inl io_29) hc55) (by decide) rfl rfl (Nat.le_of_ble_eq_true rfl) dX6_enoughBehind_124 ?_
  obtain ⟨r56, h58, hc57, hF⟩ := bd_s hF
  refine V.callVi mf_X9_calmBehind ml_X6_146 sh_26 (s_X9_calmBehind hc57) (by decide) rfl rfl (Nat.le_of_ble_eq_true rfl) dX6_enoughBehind_127 ?_
  refine V.istore [(8, _), (7, _), (0, _), (1, _), (2, _), (3, _), (4, _), (5, _), (6, _)] dX6_enoughBehind_130 (by decide) rfl ?_
  refine V.iload 0 dX6_enoughBehind_132 rfl ?_
  refine V.aload_n 2 dX6_enoughBehind_134 rfl rfl ?_
  refine V.getR (v := 13) fl_X6_28 sh_246 rfl fx_246_1 (by decide) dX6_enoughBehind_135 ?_
  obtain ⟨r59, hc60, hF⟩ := bp_s hF
  refine V.callVi mf_X1_enough ml_X6_104 sh_13 (s_X1_enough (Or.inr rfl) hc60) (by decide) rfl rfl (Nat.le_of_ble_eq_true rfl) dX6_enoughBehind_138 ?_
  refine V.icmp_lt (tgt := 148) dX6_enoughBehind_141 rfl (fun c => ?_) (fun c => ?_)
  · replace hF := ip c hF
    refine V.iconst (v := 0) dX6_enoughBehind_148 rfl ?_
    cases hF
    exact V.bret dX6_enoughBehind_149
  · replace hF := iq c hF
    refine V.iconst (v := 1) dX6_enoughBehind_144 rfl ?_
    refine V.goto (tgt := 149) dX6_enoughBehind_145 rfl ?_
    cases hF
    exact V.bret dX6_enoughBehind_149
def X6_enoughBehind (n : Nat) (x1 : Int32) (x2 : Int32) (x3 : Int32) (x4 : Int32) (x5 : Int32) (h : Mm) : Option (Bool × Mm) := (bp (X1_kindOf 13 x3 h) (fun r61 => (bp (X11_at 28 r61 h) (fun r63 => (if x4 = 0 then (X6_enoughBehind_35 n x1 x2 x3 x4 x5 r63 r63 h) else (bp (X9_moreBored r63 h) (fun r65 => (X6_enoughBehind_35 n x1 x2 x3 x4 x5 r63 r65 h))))))))
set_option maxRecDepth 100000 in
set_option maxHeartbeats 4000000 in
theorem s_X6_enoughBehind {X : WX} {o : Mm} {n : Nat} {x1 : Int32} {x2 : Int32} {x3 : Int32} {x4 : Int32} {x5 : Int32} {rv : Bool} {hz : Mm} {h : Mm} (hF : X6_enoughBehind n x1 x2 x3 x4 x5 h = some (rv, hz)) : Sat X yX6_enoughBehind cX6_enoughBehind 9 (some .boolean) 5 [.ref (xa X 246), .int x1, .int x2, .int x3, .int x4, .int x5] true o h (some (.int (b2i rv))) hz := by
  unfold X6_enoughBehind at hF
  refine Sat.mk (own := RX6) rfl (by decide +kernel) (Nat.le_of_ble_eq_true rfl) (fun G => ?_)
  refine V.sub (lv2 := [(0, _), (1, _), (2, _), (3, _), (4, _), (5, _)]) [0, 1, 2, 3, 4, 5] rfl ?_
  refine V.aload_n 0 dX6_enoughBehind_0 rfl rfl ?_
  refine V.getR (v := 27) fl_X6_34 sh_246 rfl fx_246_3 (by decide) dX6_enoughBehind_1 ?_
  refine V.getR (v := 28) fl_X6_45 sh_27 rfl fx_27_0 (by decide) dX6_enoughBehind_4 ?_
  refine V.aload_n 0 dX6_enoughBehind_7 rfl rfl ?_
  refine V.getR (v := 13) fl_X6_28 sh_246 rfl fx_246_1 (by decide) dX6_enoughBehind_8 ?_
  refine V.iload_n 3 dX6_enoughBehind_11 rfl rfl ?_
  obtain ⟨r61, hc62, hF⟩ := bp_s hF
  refine V.callVi mf_X1_kindOf ml_X6_76 sh_13 (s_X1_kindOf (Or.inr rfl) hc62) (by decide) rfl rfl (Nat.le_of_ble_eq_true rfl) dX6_enoughBehind_12 ?_
  obtain ⟨r63, hc64, hF⟩ := bp_s hF
  refine V.callNi mf_X11_at ml_X6_79 (s_X11_at (Or.inl io_28) hc64) (by decide) rfl rfl (Nat.le_of_ble_eq_true rfl) dX6_enoughBehind_15 ?_
  refine V.istore [(6, _), (0, _), (1, _), (2, _), (3, _), (4, _), (5, _)] dX6_enoughBehind_18 (by decide) rfl ?_
  refine V.iload 5 dX6_enoughBehind_20 rfl ?_
  refine V.if_ne (tgt := 30) dX6_enoughBehind_22 rfl (fun c => ?_) (fun c => ?_)
  · replace hF := iq c hF
    refine V.iload 0 dX6_enoughBehind_30 rfl ?_
    obtain ⟨r65, hc66, hF⟩ := bp_s hF
    refine V.callSi mf_X9_moreBored ml_X6_123 (s_X9_moreBored hc66) (by decide) rfl rfl (Nat.le_of_ble_eq_true rfl) dX6_enoughBehind_32 ?_
    exact V.sub [1, 2, 3, 4, 5, 6, 0] rfl (v_X6_enoughBehind_35 hF)
  · replace hF := ip c hF
    refine V.iload 0 dX6_enoughBehind_25 rfl ?_
    refine V.goto (tgt := 35) dX6_enoughBehind_27 rfl ?_
    exact V.sub [1, 2, 3, 4, 5, 6, 0] rfl (v_X6_enoughBehind_35 hF)
/-! MonsterCot$Search.gain -/
theorem dX6_gain_0 : decode cX6_gain 0 = .ok (.iload_n 0, 1) := by decide +kernel
theorem dX6_gain_1 : decode cX6_gain 1 = .ok (.ifCond .eq 8, 3) := by decide +kernel
theorem dX6_gain_4 : decode cX6_gain 4 = .ok (.bipush 9, 2) := by decide +kernel
theorem dX6_gain_6 : decode cX6_gain 6 = .ok (.iload_n 1, 1) := by decide +kernel
theorem dX6_gain_7 : decode cX6_gain 7 = .ok (.isub, 1) := by decide +kernel
theorem dX6_gain_8 : decode cX6_gain 8 = .ok (.ireturn, 1) := by decide +kernel
theorem dX6_gain_9 : decode cX6_gain 9 = .ok (.iload_n 1, 1) := by decide +kernel
theorem dX6_gain_10 : decode cX6_gain 10 = .ok (.iload_n 2, 1) := by decide +kernel
theorem dX6_gain_11 : decode cX6_gain 11 = .ok (.if_icmp .ge 10, 3) := by decide +kernel
theorem dX6_gain_14 : decode cX6_gain 14 = .ok (.iload_n 1, 1) := by decide +kernel
theorem dX6_gain_15 : decode cX6_gain 15 = .ok (.ineg, 1) := by decide +kernel
theorem dX6_gain_16 : decode cX6_gain 16 = .ok (.iconst 2, 1) := by decide +kernel
theorem dX6_gain_17 : decode cX6_gain 17 = .ok (.isub, 1) := by decide +kernel
theorem dX6_gain_18 : decode cX6_gain 18 = .ok (.goto 5, 3) := by decide +kernel
theorem dX6_gain_21 : decode cX6_gain 21 = .ok (.iload_n 1, 1) := by decide +kernel
theorem dX6_gain_22 : decode cX6_gain 22 = .ok (.ineg, 1) := by decide +kernel
theorem dX6_gain_23 : decode cX6_gain 23 = .ok (.ireturn, 1) := by decide +kernel
def X6_gain (x0 : Bool) (x1 : Int32) (x2 : Int32) (h : Mm) : Option Int32 := (if x0 = true then (some ((9 : Int32) - x1)) else (if x2 ≤ x1 then (some (-x1)) else (some ((-x1) - (2 : Int32)))))
set_option maxRecDepth 100000 in
set_option maxHeartbeats 4000000 in
theorem s_X6_gain {X : WX} {o : Mm} {x0 : Bool} {x1 : Int32} {x2 : Int32} {rv : Int32} {h : Mm} (hF : X6_gain x0 x1 x2 h = some rv) : Sat X yX6_gain cX6_gain 3 (some .int) 1 [.int (b2i x0), .int x1, .int x2] true o h (some (.int rv)) h := by
  unfold X6_gain at hF
  refine Sat.mk (own := RX6) rfl (by decide +kernel) (Nat.le_of_ble_eq_true rfl) (fun G => ?_)
  refine V.sub (lv2 := [(0, _), (1, _), (2, _)]) [0, 1, 2] rfl ?_
  refine V.iload_n 0 dX6_gain_0 rfl rfl ?_
  refine V.ifz_eq (tgt := 9) dX6_gain_1 rfl (fun c => ?_) (fun c => ?_)
  · replace hF := iq c hF
    refine V.iload_n 1 dX6_gain_9 rfl rfl ?_
    refine V.iload_n 2 dX6_gain_10 rfl rfl ?_
    refine V.icmp_ge (tgt := 21) dX6_gain_11 rfl (fun c => ?_) (fun c => ?_)
    · replace hF := ip c hF
      refine V.iload_n 1 dX6_gain_21 rfl rfl ?_
      refine V.ineg dX6_gain_22 ?_
      cases hF
      exact V.iret dX6_gain_23
    · replace hF := iq c hF
      refine V.iload_n 1 dX6_gain_14 rfl rfl ?_
      refine V.ineg dX6_gain_15 ?_
      refine V.iconst (v := 2) dX6_gain_16 rfl ?_
      refine V.isub dX6_gain_17 ?_
      refine V.goto (tgt := 23) dX6_gain_18 rfl ?_
      cases hF
      exact V.iret dX6_gain_23
  · replace hF := ip c hF
    refine V.bipush (v := 9) dX6_gain_4 (by decide) ?_
    refine V.iload_n 1 dX6_gain_6 rfl rfl ?_
    refine V.isub dX6_gain_7 ?_
    cases hF
    exact V.iret dX6_gain_8
/-! MonsterCot.game -/
theorem dX11_game_0 : decode cX11_game 0 = .ok (.aload_n 0, 1) := by decide +kernel
theorem dX11_game_1 : decode cX11_game 1 = .ok (.iload_n 1, 1) := by decide +kernel
theorem dX11_game_2 : decode cX11_game 2 = .ok (.iload_n 2, 1) := by decide +kernel
theorem dX11_game_3 : decode cX11_game 3 = .ok (.iload_n 3, 1) := by decide +kernel
theorem dX11_game_4 : decode cX11_game 4 = .ok (.invokevirtual 330, 3) := by decide +kernel
theorem dX11_game_7 : decode cX11_game 7 = .ok (.ifCond .eq 14, 3) := by decide +kernel
theorem dX11_game_10 : decode cX11_game 10 = .ok (.iload 6, 2) := by decide +kernel
theorem dX11_game_12 : decode cX11_game 12 = .ok (.ifCond .lt 9, 3) := by decide +kernel
theorem dX11_game_15 : decode cX11_game 15 = .ok (.iload 6, 2) := by decide +kernel
theorem dX11_game_17 : decode cX11_game 17 = .ok (.iconst 1, 1) := by decide +kernel
theorem dX11_game_18 : decode cX11_game 18 = .ok (.if_icmp .le 7, 3) := by decide +kernel
theorem dX11_game_21 : decode cX11_game 21 = .ok (.ldc_w 261, 3) := by decide +kernel
theorem dX11_game_24 : decode cX11_game 24 = .ok (.ireturn, 1) := by decide +kernel
theorem dX11_game_25 : decode cX11_game 25 = .ok (.aload_n 0, 1) := by decide +kernel
theorem dX11_game_26 : decode cX11_game 26 = .ok (.getfield 42, 3) := by decide +kernel
theorem dX11_game_29 : decode cX11_game 29 = .ok (.iload_n 3, 1) := by decide +kernel
theorem dX11_game_30 : decode cX11_game 30 = .ok (.invokevirtual 140, 3) := by decide +kernel
theorem dX11_game_33 : decode cX11_game 33 = .ok (.istore 7, 2) := by decide +kernel
theorem dX11_game_35 : decode cX11_game 35 = .ok (.iload 4, 2) := by decide +kernel
theorem dX11_game_37 : decode cX11_game 37 = .ok (.ifCond .lt 22, 3) := by decide +kernel
theorem dX11_game_40 : decode cX11_game 40 = .ok (.iload 4, 2) := by decide +kernel
theorem dX11_game_42 : decode cX11_game 42 = .ok (.iload 7, 2) := by decide +kernel
theorem dX11_game_44 : decode cX11_game 44 = .ok (.if_icmp .gt 15, 3) := by decide +kernel
theorem dX11_game_47 : decode cX11_game 47 = .ok (.iload 5, 2) := by decide +kernel
theorem dX11_game_49 : decode cX11_game 49 = .ok (.ifCond .lt 10, 3) := by decide +kernel
theorem dX11_game_52 : decode cX11_game 52 = .ok (.iload 5, 2) := by decide +kernel
theorem dX11_game_54 : decode cX11_game 54 = .ok (.iload 7, 2) := by decide +kernel
theorem dX11_game_56 : decode cX11_game 56 = .ok (.if_icmp .le 7, 3) := by decide +kernel
theorem dX11_game_59 : decode cX11_game 59 = .ok (.ldc_w 261, 3) := by decide +kernel
theorem dX11_game_62 : decode cX11_game 62 = .ok (.ireturn, 1) := by decide +kernel
theorem dX11_game_63 : decode cX11_game 63 = .ok (.aload_n 0, 1) := by decide +kernel
theorem dX11_game_64 : decode cX11_game 64 = .ok (.getfield 84, 3) := by decide +kernel
theorem dX11_game_67 : decode cX11_game 67 = .ok (.iload_n 1, 1) := by decide +kernel
theorem dX11_game_68 : decode cX11_game 68 = .ok (.iload_n 2, 1) := by decide +kernel
theorem dX11_game_69 : decode cX11_game 69 = .ok (.iload_n 3, 1) := by decide +kernel
theorem dX11_game_70 : decode cX11_game 70 = .ok (.iload 4, 2) := by decide +kernel
theorem dX11_game_72 : decode cX11_game 72 = .ok (.iload 5, 2) := by decide +kernel
theorem dX11_game_74 : decode cX11_game 74 = .ok (.invokevirtual 334, 3) := by decide +kernel
theorem dX11_game_77 : decode cX11_game 77 = .ok (.istore 8, 2) := by decide +kernel
theorem dX11_game_79 : decode cX11_game 79 = .ok (.iload 6, 2) := by decide +kernel
theorem dX11_game_81 : decode cX11_game 81 = .ok (.ifCond .ne 15, 3) := by decide +kernel
theorem dX11_game_84 : decode cX11_game 84 = .ok (.iload 8, 2) := by decide +kernel
theorem dX11_game_86 : decode cX11_game 86 = .ok (.iload 4, 2) := by decide +kernel
theorem dX11_game_88 : decode cX11_game 88 = .ok (.iload 5, 2) := by decide +kernel
theorem dX11_game_90 : decode cX11_game 90 = .ok (.invokestatic 337, 3) := by decide +kernel
theorem dX11_game_93 : decode cX11_game 93 = .ok (.goto 12, 3) := by decide +kernel
theorem dX11_game_96 : decode cX11_game 96 = .ok (.iload 8, 2) := by decide +kernel
theorem dX11_game_98 : decode cX11_game 98 = .ok (.iload 5, 2) := by decide +kernel
theorem dX11_game_100 : decode cX11_game 100 = .ok (.iload 4, 2) := by decide +kernel
theorem dX11_game_102 : decode cX11_game 102 = .ok (.invokestatic 337, 3) := by decide +kernel
theorem dX11_game_105 : decode cX11_game 105 = .ok (.ireturn, 1) := by decide +kernel
def X11_game_21 (n : Nat) (h : Mm) : Option (Int32 × Mm) := (some ((-1000000 : Int32), h))
set_option maxRecDepth 100000 in
set_option maxHeartbeats 4000000 in
theorem v_X11_game_21 {X : WX} {G : GX} {o : Mm} {n : Nat} {rv : Int32} {hz : Mm} {h : Mm} (hF : X11_game_21 n h = some (rv, hz)) : V X G RX11 cX11_game 9 (some .int) 6 0 0 (QR X G true o (some (.int rv)) hz) true o 21 [] [] h := by
  unfold X11_game_21 at hF
  refine V.ldcw (v := -1000000) dX11_game_21 kc_X11_261 ?_
  cases hF
  exact V.iret dX11_game_24
def X11_game_59 (n : Nat) (h : Mm) : Option (Int32 × Mm) := (some ((-1000000 : Int32), h))
set_option maxRecDepth 100000 in
set_option maxHeartbeats 4000000 in
theorem v_X11_game_59 {X : WX} {G : GX} {o : Mm} {n : Nat} {rv : Int32} {hz : Mm} {h : Mm} (hF : X11_game_59 n h = some (rv, hz)) : V X G RX11 cX11_game 9 (some .int) 6 0 0 (QR X G true o (some (.int rv)) hz) true o 59 [] [] h := by
  unfold X11_game_59 at hF
  refine V.ldcw (v := -1000000) dX11_game_59 kc_X11_261 ?_
  cases hF
  exact V.iret dX11_game_62
def X11_game (n : Nat) (x1 : Int32) (x2 : Int32) (x3 : Int32) (x4 : Int32) (x5 : Int32) (x6 : Int32) (h : Mm) : Option (Int32 × Mm) := (bp (X11_canPlay x1 x2 x3 h) (fun r23 => (if r23 = true then (if x6 < 0 then (X11_game_21 n h) else (if x6 ≤ (1 : Int32) then (bp (X1_pagesOf 13 x3 h) (fun r25 => (if x4 < 0 then (X11_game_59 n h) else (if r25 < x4 then (X11_game_59 n h) else (if x5 < 0 then (X11_game_59 n h) else (if x5 ≤ r25 then (bd (X6_enoughBehind n x1 x2 x3 x4 x5 h) (fun r27 h29 => (if x6 = 0 then (bp (X6_gain r27 x4 x5 h29) (fun r32 => (some (r32, h29)))) else (bp (X6_gain r27 x5 x4 h29) (fun r30 => (some (r30, h29))))))) else (X11_game_59 n h))))))) else (X11_game_21 n h))) else (X11_game_21 n h))))
set_option maxRecDepth 100000 in
set_option maxHeartbeats 4000000 in
theorem s_X11_game {X : WX} {o : Mm} {n : Nat} {x1 : Int32} {x2 : Int32} {x3 : Int32} {x4 : Int32} {x5 : Int32} {x6 : Int32} {rv : Int32} {hz : Mm} {h : Mm} (hF : X11_game n x1 x2 x3 x4 x5 x6 h = some (rv, hz)) : Sat X yX11_game cX11_game 9 (some .int) 6 [.ref (xa X 0), .int x1, .int x2, .int x3, .int x4, .int x5, .int x6] true o h (some (.int rv)) hz := by
  unfold X11_game at hF
  refine Sat.mk (own := RX11) rfl (by decide +kernel) (Nat.le_of_ble_eq_true rfl) (fun G => ?_)
  refine V.sub (lv2 := [(0, _), (1, _), (2, _), (3, _), (4, _), (5, _), (6, _)]) [0, 1, 2, 3, 4, 5, 6] rfl ?_
  refine V.aload_n 0 dX11_game_0 rfl rfl ?_
  refine V.iload_n 1 dX11_game_1 rfl rfl ?_
  refine V.iload_n 2 dX11_game_2 rfl rfl ?_
  refine V.iload_n 3 dX11_game_3 rfl rfl ?_
  obtain ⟨r23, hc24, hF⟩ := bp_s hF
  refine V.callVi mf_X11_canPlay ml_X11_330 sh_0 (s_X11_canPlay hc24) (by decide) rfl rfl (Nat.le_of_ble_eq_true rfl) dX11_game_4 ?_
  refine V.ifz_eq (tgt := 21) dX11_game_7 rfl (fun c => ?_) (fun c => ?_)
  · replace hF := iq c hF
    exact V.sub [] rfl (v_X11_game_21 hF)
  · replace hF := ip c hF
    refine V.iload 6 dX11_game_10 rfl ?_
    refine V.if_lt (tgt := 21) dX11_game_12 rfl (fun c => ?_) (fun c => ?_)
    · replace hF := ip c hF
      exact V.sub [] rfl (v_X11_game_21 hF)
    · replace hF := iq c hF
      refine V.iload 6 dX11_game_15 rfl ?_
      refine V.iconst (v := 1) dX11_game_17 rfl ?_
      refine V.icmp_le (tgt := 25) dX11_game_18 rfl (fun c => ?_) (fun c => ?_)
      · replace hF := ip c hF
        refine V.aload_n 0 dX11_game_25 rfl rfl ?_
        refine V.getR (v := 13) fl_X11_42 sh_0 rfl fx_0_4 (by decide) dX11_game_26 ?_
        refine V.iload_n 3 dX11_game_29 rfl rfl ?_
        obtain ⟨r25, hc26, hF⟩ := bp_s hF
        refine V.callVi mf_X1_pagesOf ml_X11_140 sh_13 (s_X1_pagesOf (Or.inr rfl) hc26) (by decide) rfl rfl (Nat.le_of_ble_eq_true rfl) dX11_game_30 ?_
        refine V.istore [(7, _), (0, _), (1, _), (2, _), (3, _), (4, _), (5, _), (6, _)] dX11_game_33 (by decide) rfl ?_
        refine V.iload 5 dX11_game_35 rfl ?_
        refine V.if_lt (tgt := 59) dX11_game_37 rfl (fun c => ?_) (fun c => ?_)
        · replace hF := ip c hF
          exact V.sub [] rfl (v_X11_game_59 hF)
        · replace hF := iq c hF
          refine V.iload 5 dX11_game_40 rfl ?_
          refine V.iload 0 dX11_game_42 rfl ?_
          refine V.icmp_gt (tgt := 59) dX11_game_44 rfl (fun c => ?_) (fun c => ?_)
          · replace hF := ip c hF
            exact V.sub [] rfl (v_X11_game_59 hF)
          · replace hF := iq c hF
            refine V.iload 6 dX11_game_47 rfl ?_
            refine V.if_lt (tgt := 59) dX11_game_49 rfl (fun c => ?_) (fun c => ?_)
            · replace hF := ip c hF
              exact V.sub [] rfl (v_X11_game_59 hF)
            · replace hF := iq c hF
              refine V.iload 6 dX11_game_52 rfl ?_
              refine V.iload 0 dX11_game_54 rfl ?_
              refine V.icmp_le (tgt := 63) dX11_game_56 rfl (fun c => ?_) (fun c => ?_)
              · replace hF := ip c hF
                refine V.aload_n 1 dX11_game_63 rfl rfl ?_
                refine V.getR (v := 246) fl_X11_84 sh_0 rfl fx_0_10 (by decide) dX11_game_64 ?_
                refine V.iload_n 2 dX11_game_67 rfl rfl ?_
                refine V.iload_n 3 dX11_game_68 rfl rfl ?_
                refine V.iload_n 4 dX11_game_69 rfl rfl ?_
                refine V.iload 5 dX11_game_70 rfl ?_
                refine V.iload 6 dX11_game_72 rfl ?_
                obtain ⟨r27, h29, hc28, hF⟩ := bd_s hF
                refine V.callVi mf_X6_enoughBehind ml_X11_334 sh_246 (s_X6_enoughBehind hc28) (by decide) rfl rfl (Nat.le_of_ble_eq_true rfl) dX11_game_74 ?_
                refine V.istore [(8, _), (7, _), (0, _), (1, _), (2, _), (3, _), (4, _), (5, _), (6, _)] dX11_game_77 (by decide) rfl ?_
                refine V.iload 8 dX11_game_79 rfl ?_
                refine V.if_ne (tgt := 96) dX11_game_81 rfl (fun c => ?_) (fun c => ?_)
                · replace hF := iq c hF
                  refine V.iload 0 dX11_game_96 rfl ?_
                  refine V.iload 7 dX11_game_98 rfl ?_
                  refine V.iload 6 dX11_game_100 rfl ?_
                  obtain ⟨r30, hc31, hF⟩ := bp_s hF
                  refine V.callSi mf_X6_gain ml_X11_337 (s_X6_gain hc31) (by decide) rfl rfl (Nat.le_of_ble_eq_true rfl) dX11_game_102 ?_
                  cases hF
                  exact V.iret dX11_game_105
                · replace hF := ip c hF
                  refine V.iload 0 dX11_game_84 rfl ?_
                  refine V.iload 6 dX11_game_86 rfl ?_
                  refine V.iload 7 dX11_game_88 rfl ?_
                  obtain ⟨r32, hc33, hF⟩ := bp_s hF
                  refine V.callSi mf_X6_gain ml_X11_337 (s_X6_gain hc33) (by decide) rfl rfl (Nat.le_of_ble_eq_true rfl) dX11_game_90 ?_
                  refine V.goto (tgt := 105) dX11_game_93 rfl ?_
                  cases hF
                  exact V.iret dX11_game_105
              · replace hF := iq c hF
                exact V.sub [] rfl (v_X11_game_59 hF)
      · replace hF := iq c hF
        exact V.sub [] rfl (v_X11_game_21 hF)
/-! MonsterCot$Search.isEnough -/
theorem dX6_isEnough_0 : decode cX6_isEnough 0 = .ok (.aload_n 0, 1) := by decide +kernel
theorem dX6_isEnough_1 : decode cX6_isEnough 1 = .ok (.getfield 15, 3) := by decide +kernel
theorem dX6_isEnough_4 : decode cX6_isEnough 4 = .ok (.iload_n 1, 1) := by decide +kernel
theorem dX6_isEnough_5 : decode cX6_isEnough 5 = .ok (.bipush 10, 2) := by decide +kernel
theorem dX6_isEnough_7 : decode cX6_isEnough 7 = .ok (.imul, 1) := by decide +kernel
theorem dX6_isEnough_8 : decode cX6_isEnough 8 = .ok (.iload_n 2, 1) := by decide +kernel
theorem dX6_isEnough_9 : decode cX6_isEnough 9 = .ok (.iadd, 1) := by decide +kernel
theorem dX6_isEnough_10 : decode cX6_isEnough 10 = .ok (.invokestatic 79, 3) := by decide +kernel
theorem dX6_isEnough_13 : decode cX6_isEnough 13 = .ok (.ifCond .eq 7, 3) := by decide +kernel
theorem dX6_isEnough_16 : decode cX6_isEnough 16 = .ok (.iconst 1, 1) := by decide +kernel
theorem dX6_isEnough_17 : decode cX6_isEnough 17 = .ok (.goto 4, 3) := by decide +kernel
theorem dX6_isEnough_20 : decode cX6_isEnough 20 = .ok (.iconst 0, 1) := by decide +kernel
theorem dX6_isEnough_21 : decode cX6_isEnough 21 = .ok (.ireturn, 1) := by decide +kernel
def X6_isEnough (x1 : Int32) (x2 : Int32) (h : Mm) : Option Bool := (bp (X11_at 248 ((x1 * (10 : Int32)) + x2) h) (fun r3 => (if r3 = 0 then (some false) else (some true))))
set_option maxRecDepth 100000 in
set_option maxHeartbeats 4000000 in
theorem s_X6_isEnough {X : WX} {o : Mm} {x1 : Int32} {x2 : Int32} {rv : Bool} {h : Mm} (hF : X6_isEnough x1 x2 h = some rv) : Sat X yX6_isEnough cX6_isEnough 3 (some .boolean) 2 [.ref (xa X 246), .int x1, .int x2] true o h (some (.int (b2i rv))) h := by
  unfold X6_isEnough at hF
  refine Sat.mk (own := RX6) rfl (by decide +kernel) (Nat.le_of_ble_eq_true rfl) (fun G => ?_)
  refine V.sub (lv2 := [(0, _), (1, _), (2, _)]) [0, 1, 2] rfl ?_
  refine V.aload_n 0 dX6_isEnough_0 rfl rfl ?_
  refine V.getR (v := 248) fl_X6_15 sh_246 rfl fx_246_5 (by decide) dX6_isEnough_1 ?_
  refine V.iload_n 1 dX6_isEnough_4 rfl rfl ?_
  refine V.bipush (v := 10) dX6_isEnough_5 (by decide) ?_
  refine V.imul dX6_isEnough_7 ?_
  refine V.iload_n 2 dX6_isEnough_8 rfl rfl ?_
  refine V.iadd dX6_isEnough_9 ?_
  obtain ⟨r3, hc4, hF⟩ := bp_s hF
  refine V.callNi mf_X11_at ml_X6_79 (s_X11_at (Or.inl io_248) hc4) (by decide) rfl rfl (Nat.le_of_ble_eq_true rfl) dX6_isEnough_10 ?_
  refine V.if_eq (tgt := 20) dX6_isEnough_13 rfl (fun c => ?_) (fun c => ?_)
  · replace hF := ip c hF
    refine V.iconst (v := 0) dX6_isEnough_20 rfl ?_
    cases hF
    exact V.bret dX6_isEnough_21
  · replace hF := iq c hF
    refine V.iconst (v := 1) dX6_isEnough_16 rfl ?_
    refine V.goto (tgt := 21) dX6_isEnough_17 rfl ?_
    cases hF
    exact V.bret dX6_isEnough_21
/-! MonsterCot$Search.isRest -/
theorem dX6_isRest_0 : decode cX6_isRest 0 = .ok (.aload_n 0, 1) := by decide +kernel
theorem dX6_isRest_1 : decode cX6_isRest 1 = .ok (.iload_n 1, 1) := by decide +kernel
theorem dX6_isRest_2 : decode cX6_isRest 2 = .ok (.iload_n 2, 1) := by decide +kernel
theorem dX6_isRest_3 : decode cX6_isRest 3 = .ok (.invokevirtual 170, 3) := by decide +kernel
theorem dX6_isRest_6 : decode cX6_isRest 6 = .ok (.iload_n 1, 1) := by decide +kernel
theorem dX6_isRest_7 : decode cX6_isRest 7 = .ok (.iload_n 2, 1) := by decide +kernel
theorem dX6_isRest_8 : decode cX6_isRest 8 = .ok (.invokestatic 174, 3) := by decide +kernel
theorem dX6_isRest_11 : decode cX6_isRest 11 = .ok (.istore 4, 2) := by decide +kernel
theorem dX6_isRest_13 : decode cX6_isRest 13 = .ok (.aload_n 0, 1) := by decide +kernel
theorem dX6_isRest_14 : decode cX6_isRest 14 = .ok (.iload_n 1, 1) := by decide +kernel
theorem dX6_isRest_15 : decode cX6_isRest 15 = .ok (.iload_n 2, 1) := by decide +kernel
theorem dX6_isRest_16 : decode cX6_isRest 16 = .ok (.invokevirtual 170, 3) := by decide +kernel
theorem dX6_isRest_19 : decode cX6_isRest 19 = .ok (.iload_n 2, 1) := by decide +kernel
theorem dX6_isRest_20 : decode cX6_isRest 20 = .ok (.iload_n 1, 1) := by decide +kernel
theorem dX6_isRest_21 : decode cX6_isRest 21 = .ok (.invokestatic 174, 3) := by decide +kernel
theorem dX6_isRest_24 : decode cX6_isRest 24 = .ok (.istore 5, 2) := by decide +kernel
theorem dX6_isRest_26 : decode cX6_isRest 26 = .ok (.iconst 0, 1) := by decide +kernel
theorem dX6_isRest_27 : decode cX6_isRest 27 = .ok (.istore 6, 2) := by decide +kernel
theorem dX6_isRest_29 : decode cX6_isRest 29 = .ok (.iload 6, 2) := by decide +kernel
theorem dX6_isRest_31 : decode cX6_isRest 31 = .ok (.iload_n 3, 1) := by decide +kernel
theorem dX6_isRest_32 : decode cX6_isRest 32 = .ok (.if_icmp .gt 71, 3) := by decide +kernel
theorem dX6_isRest_35 : decode cX6_isRest 35 = .ok (.aload_n 0, 1) := by decide +kernel
theorem dX6_isRest_36 : decode cX6_isRest 36 = .ok (.iload 6, 2) := by decide +kernel
theorem dX6_isRest_38 : decode cX6_isRest 38 = .ok (.iload_n 2, 1) := by decide +kernel
theorem dX6_isRest_39 : decode cX6_isRest 39 = .ok (.invokevirtual 170, 3) := by decide +kernel
theorem dX6_isRest_42 : decode cX6_isRest 42 = .ok (.iload 6, 2) := by decide +kernel
theorem dX6_isRest_44 : decode cX6_isRest 44 = .ok (.iload_n 2, 1) := by decide +kernel
theorem dX6_isRest_45 : decode cX6_isRest 45 = .ok (.invokestatic 174, 3) := by decide +kernel
theorem dX6_isRest_48 : decode cX6_isRest 48 = .ok (.iload 4, 2) := by decide +kernel
theorem dX6_isRest_50 : decode cX6_isRest 50 = .ok (.if_icmp .le 7, 3) := by decide +kernel
theorem dX6_isRest_53 : decode cX6_isRest 53 = .ok (.iconst 1, 1) := by decide +kernel
theorem dX6_isRest_54 : decode cX6_isRest 54 = .ok (.goto 4, 3) := by decide +kernel
theorem dX6_isRest_57 : decode cX6_isRest 57 = .ok (.iconst 0, 1) := by decide +kernel
theorem dX6_isRest_58 : decode cX6_isRest 58 = .ok (.istore 7, 2) := by decide +kernel
theorem dX6_isRest_60 : decode cX6_isRest 60 = .ok (.aload_n 0, 1) := by decide +kernel
theorem dX6_isRest_61 : decode cX6_isRest 61 = .ok (.iload_n 1, 1) := by decide +kernel
theorem dX6_isRest_62 : decode cX6_isRest 62 = .ok (.iload 6, 2) := by decide +kernel
theorem dX6_isRest_64 : decode cX6_isRest 64 = .ok (.invokevirtual 170, 3) := by decide +kernel
theorem dX6_isRest_67 : decode cX6_isRest 67 = .ok (.iload 6, 2) := by decide +kernel
theorem dX6_isRest_69 : decode cX6_isRest 69 = .ok (.iload_n 1, 1) := by decide +kernel
theorem dX6_isRest_70 : decode cX6_isRest 70 = .ok (.invokestatic 174, 3) := by decide +kernel
theorem dX6_isRest_73 : decode cX6_isRest 73 = .ok (.iload 5, 2) := by decide +kernel
theorem dX6_isRest_75 : decode cX6_isRest 75 = .ok (.if_icmp .le 7, 3) := by decide +kernel
theorem dX6_isRest_78 : decode cX6_isRest 78 = .ok (.iconst 1, 1) := by decide +kernel
theorem dX6_isRest_79 : decode cX6_isRest 79 = .ok (.goto 4, 3) := by decide +kernel
theorem dX6_isRest_82 : decode cX6_isRest 82 = .ok (.iconst 0, 1) := by decide +kernel
theorem dX6_isRest_83 : decode cX6_isRest 83 = .ok (.istore 8, 2) := by decide +kernel
theorem dX6_isRest_85 : decode cX6_isRest 85 = .ok (.iload 7, 2) := by decide +kernel
theorem dX6_isRest_87 : decode cX6_isRest 87 = .ok (.ifCond .ne 8, 3) := by decide +kernel
theorem dX6_isRest_90 : decode cX6_isRest 90 = .ok (.iload 8, 2) := by decide +kernel
theorem dX6_isRest_92 : decode cX6_isRest 92 = .ok (.ifCond .eq 5, 3) := by decide +kernel
theorem dX6_isRest_95 : decode cX6_isRest 95 = .ok (.iconst 0, 1) := by decide +kernel
theorem dX6_isRest_96 : decode cX6_isRest 96 = .ok (.ireturn, 1) := by decide +kernel
theorem dX6_isRest_97 : decode cX6_isRest 97 = .ok (.iinc 6 1, 3) := by decide +kernel
theorem dX6_isRest_100 : decode cX6_isRest 100 = .ok (.goto (-71), 3) := by decide +kernel
theorem dX6_isRest_103 : decode cX6_isRest 103 = .ok (.iconst 1, 1) := by decide +kernel
theorem dX6_isRest_104 : decode cX6_isRest 104 = .ok (.ireturn, 1) := by decide +kernel
def X6_isRest_83 (n : Nat) (K29 : Int32 → Int32 → Int32 → Int32 → Int32 → Int32 → Mm → Option Bool) (x1 : Int32) (x2 : Int32) (x3 : Int32) (x4 : Int32) (x5 : Int32) (x6 : Int32) (x7 : Bool) (s0 : Bool) (h : Mm) : Option Bool := (if x7 = true then (some false) else (if s0 = true then (some false) else (K29 x1 x2 x3 x4 x5 (x6 + (1)) h)))
set_option maxRecDepth 100000 in
set_option maxHeartbeats 4000000 in
theorem v_X6_isRest_83 {X : WX} {G : GX} {o : Mm} {n : Nat} {K29 : Int32 → Int32 → Int32 → Int32 → Int32 → Int32 → Mm → Option Bool} {rv : Bool} {h : Mm} (hK29 : ∀ (x1 : Int32) (x2 : Int32) (x3 : Int32) (x4 : Int32) (x5 : Int32) (x6 : Int32), K29 x1 x2 x3 x4 x5 x6 h = some rv → V X G RX6 cX6_isRest 9 (some .boolean) 3 0 0 (QR X G true o (some (.int (b2i rv))) h) true o 29 [(0, .ref (xa X 246)), (1, .int x1), (2, .int x2), (3, .int x3), (4, .int x4), (5, .int x5), (6, .int x6)] [] h) {x1 : Int32} {x2 : Int32} {x3 : Int32} {x4 : Int32} {x5 : Int32} {x6 : Int32} {x7 : Bool} {s0 : Bool} (hF : X6_isRest_83 n K29 x1 x2 x3 x4 x5 x6 x7 s0 h = some rv) : V X G RX6 cX6_isRest 9 (some .boolean) 3 0 0 (QR X G true o (some (.int (b2i rv))) h) true o 83 [(0, .ref (xa X 246)), (1, .int x1), (2, .int x2), (3, .int x3), (4, .int x4), (5, .int x5), (6, .int x6), (7, .int (b2i x7))] [.int (b2i s0)] h := by
  unfold X6_isRest_83 at hF
  refine V.istore [(8, _), (0, _), (1, _), (2, _), (3, _), (4, _), (5, _), (6, _), (7, _)] dX6_isRest_83 (by decide) rfl ?_
  refine V.iload 8 dX6_isRest_85 rfl ?_
  refine V.ifz_ne (tgt := 95) dX6_isRest_87 rfl (fun c => ?_) (fun c => ?_)
  · replace hF := ip c hF
    refine V.iconst (v := 0) dX6_isRest_95 rfl ?_
    cases hF
    exact V.bret dX6_isRest_96
  · replace hF := iq c hF
    refine V.iload 0 dX6_isRest_90 rfl ?_
    refine V.ifz_eq (tgt := 97) dX6_isRest_92 rfl (fun c => ?_) (fun c => ?_)
    · replace hF := iq c hF
      refine V.iinc (v := (x6 + (1))) 7 [(6, _), (8, _), (0, _), (1, _), (2, _), (3, _), (4, _), (5, _), (7, _)] dX6_isRest_97 rfl rfl (by decide) rfl ?_
      refine V.goto (tgt := 29) dX6_isRest_100 rfl ?_
      exact V.sub [2, 3, 4, 5, 6, 7, 0] rfl (hK29 _ _ _ _ _ _ hF)
    · replace hF := ip c hF
      refine V.iconst (v := 0) dX6_isRest_95 rfl ?_
      cases hF
      exact V.bret dX6_isRest_96
def X6_isRest_58 (n : Nat) (K29 : Int32 → Int32 → Int32 → Int32 → Int32 → Int32 → Mm → Option Bool) (x1 : Int32) (x2 : Int32) (x3 : Int32) (x4 : Int32) (x5 : Int32) (x6 : Int32) (s0 : Bool) (h : Mm) : Option Bool := (bp (X6_isEnough x1 x6 h) (fun r77 => (bp (X6_gain r77 x6 x1 h) (fun r79 => (if r79 ≤ x5 then (X6_isRest_83 n K29 x1 x2 x3 x4 x5 x6 s0 false h) else (X6_isRest_83 n K29 x1 x2 x3 x4 x5 x6 s0 true h))))))
set_option maxRecDepth 100000 in
set_option maxHeartbeats 4000000 in
theorem v_X6_isRest_58 {X : WX} {G : GX} {o : Mm} {n : Nat} {K29 : Int32 → Int32 → Int32 → Int32 → Int32 → Int32 → Mm → Option Bool} {rv : Bool} {h : Mm} (hK29 : ∀ (x1 : Int32) (x2 : Int32) (x3 : Int32) (x4 : Int32) (x5 : Int32) (x6 : Int32), K29 x1 x2 x3 x4 x5 x6 h = some rv → V X G RX6 cX6_isRest 9 (some .boolean) 3 0 0 (QR X G true o (some (.int (b2i rv))) h) true o 29 [(0, .ref (xa X 246)), (1, .int x1), (2, .int x2), (3, .int x3), (4, .int x4), (5, .int x5), (6, .int x6)] [] h) {x1 : Int32} {x2 : Int32} {x3 : Int32} {x4 : Int32} {x5 : Int32} {x6 : Int32} {s0 : Bool} (hF : X6_isRest_58 n K29 x1 x2 x3 x4 x5 x6 s0 h = some rv) : V X G RX6 cX6_isRest 9 (some .boolean) 3 0 0 (QR X G true o (some (.int (b2i rv))) h) true o 58 [(0, .ref (xa X 246)), (1, .int x1), (2, .int x2), (3, .int x3), (4, .int x4), (5, .int x5), (6, .int x6)] [.int (b2i s0)] h := by
  unfold X6_isRest_58 at hF
  refine V.istore [(7, _), (0, _), (1, _), (2, _), (3, _), (4, _), (5, _), (6, _)] dX6_isRest_58 (by decide) rfl ?_
  refine V.aload_n 1 dX6_isRest_60 rfl rfl ?_
  refine V.iload_n 2 dX6_isRest_61 rfl rfl ?_
  refine V.iload 7 dX6_isRest_62 rfl ?_
  obtain ⟨r77, hc78, hF⟩ := bp_s hF
  refine V.callVi mf_X6_isEnough ml_X6_170 sh_246 (s_X6_isEnough hc78) (by decide) rfl rfl (Nat.le_of_ble_eq_true rfl) dX6_isRest_64 ?_
  refine V.iload 7 dX6_isRest_67 rfl ?_
  refine V.iload_n 2 dX6_isRest_69 rfl rfl ?_
  obtain ⟨r79, hc80, hF⟩ := bp_s hF
  refine V.callSi mf_X6_gain ml_X6_174 (s_X6_gain hc80) (by decide) rfl rfl (Nat.le_of_ble_eq_true rfl) dX6_isRest_70 ?_
  refine V.iload 6 dX6_isRest_73 rfl ?_
  refine V.icmp_le (tgt := 82) dX6_isRest_75 rfl (fun c => ?_) (fun c => ?_)
  · replace hF := ip c hF
    refine V.iconst (v := 0) dX6_isRest_82 rfl ?_
    exact V.sub [1, 2, 3, 4, 5, 6, 7, 0] rfl (v_X6_isRest_83 hK29 hF)
  · replace hF := iq c hF
    refine V.iconst (v := 1) dX6_isRest_78 rfl ?_
    refine V.goto (tgt := 83) dX6_isRest_79 rfl ?_
    exact V.sub [1, 2, 3, 4, 5, 6, 7, 0] rfl (v_X6_isRest_83 hK29 hF)
def X6_isRest_29 (n : Nat) : Nat → Int32 → Int32 → Int32 → Int32 → Int32 → Int32 → Mm → Option Bool
  | 0, _, _, _, _, _, _, _ => none
  | f + 1, x1, x2, x3, x4, x5, x6, h => (if x3 < x6 then (some true) else (bp (X6_isEnough x6 x2 h) (fun r81 => (bp (X6_gain r81 x6 x2 h) (fun r83 => (if r83 ≤ x4 then (X6_isRest_58 n (X6_isRest_29 n f) x1 x2 x3 x4 x5 x6 false h) else (X6_isRest_58 n (X6_isRest_29 n f) x1 x2 x3 x4 x5 x6 true h)))))))
set_option maxRecDepth 100000 in
set_option maxHeartbeats 4000000 in
theorem v_X6_isRest_29 {X : WX} {G : GX} {o : Mm} {n : Nat} {rv : Bool} {h : Mm} : ∀ (f : Nat) (x1 : Int32) (x2 : Int32) (x3 : Int32) (x4 : Int32) (x5 : Int32) (x6 : Int32), X6_isRest_29 n f x1 x2 x3 x4 x5 x6 h = some rv → V X G RX6 cX6_isRest 9 (some .boolean) 3 0 0 (QR X G true o (some (.int (b2i rv))) h) true o 29 [(0, .ref (xa X 246)), (1, .int x1), (2, .int x2), (3, .int x3), (4, .int x4), (5, .int x5), (6, .int x6)] [] h := by
  intro f
  induction f with
  | zero => intro x1 x2 x3 x4 x5 x6 hF; exact nomatch (show (none : Option Bool) = some rv from hF)
  | succ f ih =>
    intro x1 x2 x3 x4 x5 x6 hF
    unfold X6_isRest_29 at hF
    refine V.iload 6 dX6_isRest_29 rfl ?_
    refine V.iload_n 3 dX6_isRest_31 rfl rfl ?_
    refine V.icmp_gt (tgt := 103) dX6_isRest_32 rfl (fun c => ?_) (fun c => ?_)
    · replace hF := ip c hF
      refine V.iconst (v := 1) dX6_isRest_103 rfl ?_
      cases hF
      exact V.bret dX6_isRest_104
    · replace hF := iq c hF
      refine V.aload_n 0 dX6_isRest_35 rfl rfl ?_
      refine V.iload 6 dX6_isRest_36 rfl ?_
      refine V.iload_n 2 dX6_isRest_38 rfl rfl ?_
      obtain ⟨r81, hc82, hF⟩ := bp_s hF
      refine V.callVi mf_X6_isEnough ml_X6_170 sh_246 (s_X6_isEnough hc82) (by decide) rfl rfl (Nat.le_of_ble_eq_true rfl) dX6_isRest_39 ?_
      refine V.iload 6 dX6_isRest_42 rfl ?_
      refine V.iload_n 2 dX6_isRest_44 rfl rfl ?_
      obtain ⟨r83, hc84, hF⟩ := bp_s hF
      refine V.callSi mf_X6_gain ml_X6_174 (s_X6_gain hc84) (by decide) rfl rfl (Nat.le_of_ble_eq_true rfl) dX6_isRest_45 ?_
      refine V.iload 4 dX6_isRest_48 rfl ?_
      refine V.icmp_le (tgt := 57) dX6_isRest_50 rfl (fun c => ?_) (fun c => ?_)
      · replace hF := ip c hF
        refine V.iconst (v := 0) dX6_isRest_57 rfl ?_
        exact (v_X6_isRest_58 ih hF)
      · replace hF := iq c hF
        refine V.iconst (v := 1) dX6_isRest_53 rfl ?_
        refine V.goto (tgt := 58) dX6_isRest_54 rfl ?_
        exact (v_X6_isRest_58 ih hF)
def X6_isRest (n : Nat) (x1 : Int32) (x2 : Int32) (x3 : Int32) (h : Mm) : Option Bool := (bp (X6_isEnough x1 x2 h) (fun r85 => (bp (X6_gain r85 x1 x2 h) (fun r87 => (bp (X6_isEnough x1 x2 h) (fun r89 => (bp (X6_gain r89 x2 x1 h) (fun r91 => (X6_isRest_29 n n x1 x2 x3 r87 r91 (0 : Int32) h)))))))))
set_option maxRecDepth 100000 in
set_option maxHeartbeats 4000000 in
theorem s_X6_isRest {X : WX} {o : Mm} {n : Nat} {x1 : Int32} {x2 : Int32} {x3 : Int32} {rv : Bool} {h : Mm} (hF : X6_isRest n x1 x2 x3 h = some rv) : Sat X yX6_isRest cX6_isRest 9 (some .boolean) 3 [.ref (xa X 246), .int x1, .int x2, .int x3] true o h (some (.int (b2i rv))) h := by
  unfold X6_isRest at hF
  refine Sat.mk (own := RX6) rfl (by decide +kernel) (Nat.le_of_ble_eq_true rfl) (fun G => ?_)
  refine V.sub (lv2 := [(0, _), (1, _), (2, _), (3, _)]) [0, 1, 2, 3] rfl ?_
  refine V.aload_n 0 dX6_isRest_0 rfl rfl ?_
  refine V.iload_n 1 dX6_isRest_1 rfl rfl ?_
  refine V.iload_n 2 dX6_isRest_2 rfl rfl ?_
  obtain ⟨r85, hc86, hF⟩ := bp_s hF
  refine V.callVi mf_X6_isEnough ml_X6_170 sh_246 (s_X6_isEnough hc86) (by decide) rfl rfl (Nat.le_of_ble_eq_true rfl) dX6_isRest_3 ?_
  refine V.iload_n 1 dX6_isRest_6 rfl rfl ?_
  refine V.iload_n 2 dX6_isRest_7 rfl rfl ?_
  obtain ⟨r87, hc88, hF⟩ := bp_s hF
  refine V.callSi mf_X6_gain ml_X6_174 (s_X6_gain hc88) (by decide) rfl rfl (Nat.le_of_ble_eq_true rfl) dX6_isRest_8 ?_
  refine V.istore [(4, _), (0, _), (1, _), (2, _), (3, _)] dX6_isRest_11 (by decide) rfl ?_
  refine V.aload_n 1 dX6_isRest_13 rfl rfl ?_
  refine V.iload_n 2 dX6_isRest_14 rfl rfl ?_
  refine V.iload_n 3 dX6_isRest_15 rfl rfl ?_
  obtain ⟨r89, hc90, hF⟩ := bp_s hF
  refine V.callVi mf_X6_isEnough ml_X6_170 sh_246 (s_X6_isEnough hc90) (by decide) rfl rfl (Nat.le_of_ble_eq_true rfl) dX6_isRest_16 ?_
  refine V.iload_n 3 dX6_isRest_19 rfl rfl ?_
  refine V.iload_n 2 dX6_isRest_20 rfl rfl ?_
  obtain ⟨r91, hc92, hF⟩ := bp_s hF
  refine V.callSi mf_X6_gain ml_X6_174 (s_X6_gain hc92) (by decide) rfl rfl (Nat.le_of_ble_eq_true rfl) dX6_isRest_21 ?_
  refine V.istore [(5, _), (4, _), (0, _), (1, _), (2, _), (3, _)] dX6_isRest_24 (by decide) rfl ?_
  refine V.iconst (v := 0) dX6_isRest_26 rfl ?_
  refine V.istore [(6, _), (5, _), (4, _), (0, _), (1, _), (2, _), (3, _)] dX6_isRest_27 (by decide) rfl ?_
  exact V.sub [3, 4, 5, 6, 2, 1, 0] rfl (v_X6_isRest_29 n _ _ _ _ _ _ hF)
/-! MonsterCot$Search.restsOf -/
theorem dX6_restsOf_0 : decode cX6_restsOf 0 = .ok (.aload_n 0, 1) := by decide +kernel
theorem dX6_restsOf_1 : decode cX6_restsOf 1 = .ok (.getfield 28, 3) := by decide +kernel
theorem dX6_restsOf_4 : decode cX6_restsOf 4 = .ok (.iload_n 3, 1) := by decide +kernel
theorem dX6_restsOf_5 : decode cX6_restsOf 5 = .ok (.invokevirtual 95, 3) := by decide +kernel
theorem dX6_restsOf_8 : decode cX6_restsOf 8 = .ok (.istore 5, 2) := by decide +kernel
theorem dX6_restsOf_10 : decode cX6_restsOf 10 = .ok (.iconst 0, 1) := by decide +kernel
theorem dX6_restsOf_11 : decode cX6_restsOf 11 = .ok (.istore 6, 2) := by decide +kernel
theorem dX6_restsOf_13 : decode cX6_restsOf 13 = .ok (.iload 6, 2) := by decide +kernel
theorem dX6_restsOf_15 : decode cX6_restsOf 15 = .ok (.iload 5, 2) := by decide +kernel
theorem dX6_restsOf_17 : decode cX6_restsOf 17 = .ok (.if_icmp .gt 59, 3) := by decide +kernel
theorem dX6_restsOf_20 : decode cX6_restsOf 20 = .ok (.iconst 0, 1) := by decide +kernel
theorem dX6_restsOf_21 : decode cX6_restsOf 21 = .ok (.istore 7, 2) := by decide +kernel
theorem dX6_restsOf_23 : decode cX6_restsOf 23 = .ok (.iload 7, 2) := by decide +kernel
theorem dX6_restsOf_25 : decode cX6_restsOf 25 = .ok (.iload 5, 2) := by decide +kernel
theorem dX6_restsOf_27 : decode cX6_restsOf 27 = .ok (.if_icmp .gt 43, 3) := by decide +kernel
theorem dX6_restsOf_30 : decode cX6_restsOf 30 = .ok (.aload_n 0, 1) := by decide +kernel
theorem dX6_restsOf_31 : decode cX6_restsOf 31 = .ok (.getfield 15, 3) := by decide +kernel
theorem dX6_restsOf_34 : decode cX6_restsOf 34 = .ok (.iload 6, 2) := by decide +kernel
theorem dX6_restsOf_36 : decode cX6_restsOf 36 = .ok (.bipush 10, 2) := by decide +kernel
theorem dX6_restsOf_38 : decode cX6_restsOf 38 = .ok (.imul, 1) := by decide +kernel
theorem dX6_restsOf_39 : decode cX6_restsOf 39 = .ok (.iload 7, 2) := by decide +kernel
theorem dX6_restsOf_41 : decode cX6_restsOf 41 = .ok (.iadd, 1) := by decide +kernel
theorem dX6_restsOf_42 : decode cX6_restsOf 42 = .ok (.aload_n 0, 1) := by decide +kernel
theorem dX6_restsOf_43 : decode cX6_restsOf 43 = .ok (.iload_n 1, 1) := by decide +kernel
theorem dX6_restsOf_44 : decode cX6_restsOf 44 = .ok (.iload_n 2, 1) := by decide +kernel
theorem dX6_restsOf_45 : decode cX6_restsOf 45 = .ok (.iload_n 3, 1) := by decide +kernel
theorem dX6_restsOf_46 : decode cX6_restsOf 46 = .ok (.iload 6, 2) := by decide +kernel
theorem dX6_restsOf_48 : decode cX6_restsOf 48 = .ok (.iload 7, 2) := by decide +kernel
theorem dX6_restsOf_50 : decode cX6_restsOf 50 = .ok (.invokevirtual 162, 3) := by decide +kernel
theorem dX6_restsOf_53 : decode cX6_restsOf 53 = .ok (.ifCond .eq 7, 3) := by decide +kernel
theorem dX6_restsOf_56 : decode cX6_restsOf 56 = .ok (.iconst 1, 1) := by decide +kernel
theorem dX6_restsOf_57 : decode cX6_restsOf 57 = .ok (.goto 4, 3) := by decide +kernel
theorem dX6_restsOf_60 : decode cX6_restsOf 60 = .ok (.iconst 0, 1) := by decide +kernel
theorem dX6_restsOf_61 : decode cX6_restsOf 61 = .ok (.invokestatic 126, 3) := by decide +kernel
theorem dX6_restsOf_64 : decode cX6_restsOf 64 = .ok (.iinc 7 1, 3) := by decide +kernel
theorem dX6_restsOf_67 : decode cX6_restsOf 67 = .ok (.goto (-44), 3) := by decide +kernel
theorem dX6_restsOf_70 : decode cX6_restsOf 70 = .ok (.iinc 6 1, 3) := by decide +kernel
theorem dX6_restsOf_73 : decode cX6_restsOf 73 = .ok (.goto (-60), 3) := by decide +kernel
theorem dX6_restsOf_76 : decode cX6_restsOf 76 = .ok (.iconst 0, 1) := by decide +kernel
theorem dX6_restsOf_77 : decode cX6_restsOf 77 = .ok (.istore 6, 2) := by decide +kernel
theorem dX6_restsOf_79 : decode cX6_restsOf 79 = .ok (.iconst 0, 1) := by decide +kernel
theorem dX6_restsOf_80 : decode cX6_restsOf 80 = .ok (.istore 7, 2) := by decide +kernel
theorem dX6_restsOf_82 : decode cX6_restsOf 82 = .ok (.iload 7, 2) := by decide +kernel
theorem dX6_restsOf_84 : decode cX6_restsOf 84 = .ok (.iload 5, 2) := by decide +kernel
theorem dX6_restsOf_86 : decode cX6_restsOf 86 = .ok (.if_icmp .gt 57, 3) := by decide +kernel
theorem dX6_restsOf_89 : decode cX6_restsOf 89 = .ok (.iconst 0, 1) := by decide +kernel
theorem dX6_restsOf_90 : decode cX6_restsOf 90 = .ok (.istore 8, 2) := by decide +kernel
theorem dX6_restsOf_92 : decode cX6_restsOf 92 = .ok (.iload 8, 2) := by decide +kernel
theorem dX6_restsOf_94 : decode cX6_restsOf 94 = .ok (.iload 5, 2) := by decide +kernel
theorem dX6_restsOf_96 : decode cX6_restsOf 96 = .ok (.if_icmp .gt 41, 3) := by decide +kernel
theorem dX6_restsOf_99 : decode cX6_restsOf 99 = .ok (.aload_n 0, 1) := by decide +kernel
theorem dX6_restsOf_100 : decode cX6_restsOf 100 = .ok (.iload 7, 2) := by decide +kernel
theorem dX6_restsOf_102 : decode cX6_restsOf 102 = .ok (.iload 8, 2) := by decide +kernel
theorem dX6_restsOf_104 : decode cX6_restsOf 104 = .ok (.iload 5, 2) := by decide +kernel
theorem dX6_restsOf_106 : decode cX6_restsOf 106 = .ok (.invokevirtual 166, 3) := by decide +kernel
theorem dX6_restsOf_109 : decode cX6_restsOf 109 = .ok (.ifCond .eq 22, 3) := by decide +kernel
theorem dX6_restsOf_112 : decode cX6_restsOf 112 = .ok (.iload 6, 2) := by decide +kernel
theorem dX6_restsOf_114 : decode cX6_restsOf 114 = .ok (.iload 4, 2) := by decide +kernel
theorem dX6_restsOf_116 : decode cX6_restsOf 116 = .ok (.if_icmp .ne 12, 3) := by decide +kernel
theorem dX6_restsOf_119 : decode cX6_restsOf 119 = .ok (.iload 7, 2) := by decide +kernel
theorem dX6_restsOf_121 : decode cX6_restsOf 121 = .ok (.bipush 10, 2) := by decide +kernel
theorem dX6_restsOf_123 : decode cX6_restsOf 123 = .ok (.imul, 1) := by decide +kernel
theorem dX6_restsOf_124 : decode cX6_restsOf 124 = .ok (.iload 8, 2) := by decide +kernel
theorem dX6_restsOf_126 : decode cX6_restsOf 126 = .ok (.iadd, 1) := by decide +kernel
theorem dX6_restsOf_127 : decode cX6_restsOf 127 = .ok (.ireturn, 1) := by decide +kernel
theorem dX6_restsOf_128 : decode cX6_restsOf 128 = .ok (.iinc 6 1, 3) := by decide +kernel
theorem dX6_restsOf_131 : decode cX6_restsOf 131 = .ok (.iinc 8 1, 3) := by decide +kernel
theorem dX6_restsOf_134 : decode cX6_restsOf 134 = .ok (.goto (-42), 3) := by decide +kernel
theorem dX6_restsOf_137 : decode cX6_restsOf 137 = .ok (.iinc 7 1, 3) := by decide +kernel
theorem dX6_restsOf_140 : decode cX6_restsOf 140 = .ok (.goto (-58), 3) := by decide +kernel
theorem dX6_restsOf_143 : decode cX6_restsOf 143 = .ok (.iload 4, 2) := by decide +kernel
theorem dX6_restsOf_145 : decode cX6_restsOf 145 = .ok (.iconst (-1), 1) := by decide +kernel
theorem dX6_restsOf_146 : decode cX6_restsOf 146 = .ok (.if_icmp .ne 8, 3) := by decide +kernel
theorem dX6_restsOf_149 : decode cX6_restsOf 149 = .ok (.iload 6, 2) := by decide +kernel
theorem dX6_restsOf_151 : decode cX6_restsOf 151 = .ok (.goto 4, 3) := by decide +kernel
theorem dX6_restsOf_154 : decode cX6_restsOf 154 = .ok (.iconst (-1), 1) := by decide +kernel
theorem dX6_restsOf_155 : decode cX6_restsOf 155 = .ok (.ireturn, 1) := by decide +kernel
def X6_restsOf_61 (n : Nat) (K13 : Int32 → Int32 → Int32 → Int32 → Int32 → Int32 → Mm → Option (Int32 × Mm)) (K23 : Int32 → Int32 → Int32 → Int32 → Int32 → Int32 → Int32 → Mm → Option (Int32 × Mm)) (x1 : Int32) (x2 : Int32) (x3 : Int32) (x4 : Int32) (x5 : Int32) (x6 : Int32) (x7 : Int32) (s1 : Int32) (s2 : Bool) (h : Mm) : Option (Int32 × Mm) := (bd (X11_put 248 s1 (b2i s2) h) (fun _ h50 => (K23 x1 x2 x3 x4 x5 x6 (x7 + (1)) h50)))
set_option maxRecDepth 100000 in
set_option maxHeartbeats 4000000 in
theorem v_X6_restsOf_61 {X : WX} {G : GX} {o : Mm} {n : Nat} {K13 : Int32 → Int32 → Int32 → Int32 → Int32 → Int32 → Mm → Option (Int32 × Mm)} {K23 : Int32 → Int32 → Int32 → Int32 → Int32 → Int32 → Int32 → Mm → Option (Int32 × Mm)} {rv : Int32} {hz : Mm} (hK13 : ∀ (x1 : Int32) (x2 : Int32) (x3 : Int32) (x4 : Int32) (x5 : Int32) (x6 : Int32) (h : Mm), K13 x1 x2 x3 x4 x5 x6 h = some (rv, hz) → V X G RX6 cX6_restsOf 9 (some .int) 6 0 0 (QR X G true o (some (.int rv)) hz) true o 13 [(0, .ref (xa X 246)), (1, .int x1), (2, .int x2), (3, .int x3), (4, .int x4), (5, .int x5), (6, .int x6)] [] h) (hK23 : ∀ (x1 : Int32) (x2 : Int32) (x3 : Int32) (x4 : Int32) (x5 : Int32) (x6 : Int32) (x7 : Int32) (h : Mm), K23 x1 x2 x3 x4 x5 x6 x7 h = some (rv, hz) → V X G RX6 cX6_restsOf 9 (some .int) 6 0 0 (QR X G true o (some (.int rv)) hz) true o 23 [(0, .ref (xa X 246)), (1, .int x1), (2, .int x2), (3, .int x3), (4, .int x4), (5, .int x5), (6, .int x6), (7, .int x7)] [] h) {x1 : Int32} {x2 : Int32} {x3 : Int32} {x4 : Int32} {x5 : Int32} {x6 : Int32} {x7 : Int32} {s1 : Int32} {s2 : Bool} {h : Mm} (hF : X6_restsOf_61 n K13 K23 x1 x2 x3 x4 x5 x6 x7 s1 s2 h = some (rv, hz)) : V X G RX6 cX6_restsOf 9 (some .int) 6 0 0 (QR X G true o (some (.int rv)) hz) true o 61 [(0, .ref (xa X 246)), (1, .int x1), (2, .int x2), (3, .int x3), (4, .int x4), (5, .int x5), (6, .int x6), (7, .int x7)] [.int (b2i s2), .int s1, .ref (xa X 248)] h := by
  unfold X6_restsOf_61 at hF
  obtain ⟨r48, h50, hc49, hF⟩ := bd_s hF
  refine V.callNv mf_X11_put ml_X6_126 (s_X11_put io_248 hc49) (by decide) rfl rfl (Nat.le_of_ble_eq_true rfl) dX6_restsOf_61 ?_
  refine V.iinc (v := (x7 + (1))) 7 [(7, _), (0, _), (1, _), (2, _), (3, _), (4, _), (5, _), (6, _)] dX6_restsOf_64 rfl rfl (by decide) rfl ?_
  refine V.goto (tgt := 23) dX6_restsOf_67 rfl ?_
  exact V.sub [1, 2, 3, 4, 5, 6, 7, 0] rfl (hK23 _ _ _ _ _ _ _ _ hF)
def X6_restsOf_23 (n : Nat) (K13 : Int32 → Int32 → Int32 → Int32 → Int32 → Int32 → Mm → Option (Int32 × Mm)) : Nat → Int32 → Int32 → Int32 → Int32 → Int32 → Int32 → Int32 → Mm → Option (Int32 × Mm)
  | 0, _, _, _, _, _, _, _, _ => none
  | f + 1, x1, x2, x3, x4, x5, x6, x7, h => (if x5 < x7 then (K13 x1 x2 x3 x4 x5 (x6 + (1)) h) else (bd (X6_enoughBehind n x1 x2 x3 x6 x7 h) (fun r51 h53 => (if r51 = true then (X6_restsOf_61 n K13 (X6_restsOf_23 n K13 f) x1 x2 x3 x4 x5 x6 x7 ((x6 * (10 : Int32)) + x7) true h53) else (X6_restsOf_61 n K13 (X6_restsOf_23 n K13 f) x1 x2 x3 x4 x5 x6 x7 ((x6 * (10 : Int32)) + x7) false h53)))))
set_option maxRecDepth 100000 in
set_option maxHeartbeats 4000000 in
theorem v_X6_restsOf_23 {X : WX} {G : GX} {o : Mm} {n : Nat} {K13 : Int32 → Int32 → Int32 → Int32 → Int32 → Int32 → Mm → Option (Int32 × Mm)} {rv : Int32} {hz : Mm} (hK13 : ∀ (x1 : Int32) (x2 : Int32) (x3 : Int32) (x4 : Int32) (x5 : Int32) (x6 : Int32) (h : Mm), K13 x1 x2 x3 x4 x5 x6 h = some (rv, hz) → V X G RX6 cX6_restsOf 9 (some .int) 6 0 0 (QR X G true o (some (.int rv)) hz) true o 13 [(0, .ref (xa X 246)), (1, .int x1), (2, .int x2), (3, .int x3), (4, .int x4), (5, .int x5), (6, .int x6)] [] h) : ∀ (f : Nat) (x1 : Int32) (x2 : Int32) (x3 : Int32) (x4 : Int32) (x5 : Int32) (x6 : Int32) (x7 : Int32) (h : Mm), X6_restsOf_23 n K13 f x1 x2 x3 x4 x5 x6 x7 h = some (rv, hz) → V X G RX6 cX6_restsOf 9 (some .int) 6 0 0 (QR X G true o (some (.int rv)) hz) true o 23 [(0, .ref (xa X 246)), (1, .int x1), (2, .int x2), (3, .int x3), (4, .int x4), (5, .int x5), (6, .int x6), (7, .int x7)] [] h := by
  intro f
  induction f with
  | zero => intro x1 x2 x3 x4 x5 x6 x7 h hF; exact nomatch (show (none : Option (Int32 × Mm)) = some (rv, hz) from hF)
  | succ f ih =>
    intro x1 x2 x3 x4 x5 x6 x7 h hF
    unfold X6_restsOf_23 at hF
    refine V.iload 7 dX6_restsOf_23 rfl ?_
    refine V.iload 5 dX6_restsOf_25 rfl ?_
    refine V.icmp_gt (tgt := 70) dX6_restsOf_27 rfl (fun c => ?_) (fun c => ?_)
    · replace hF := ip c hF
      refine V.iinc (v := (x6 + (1))) 6 [(6, _), (0, _), (1, _), (2, _), (3, _), (4, _), (5, _), (7, _)] dX6_restsOf_70 rfl rfl (by decide) rfl ?_
      refine V.goto (tgt := 13) dX6_restsOf_73 rfl ?_
      exact V.sub [1, 2, 3, 4, 5, 6, 0] rfl (hK13 _ _ _ _ _ _ _ hF)
    · replace hF := iq c hF
      refine V.aload_n 0 dX6_restsOf_30 rfl rfl ?_
      refine V.getR (v := 248) fl_X6_15 sh_246 rfl fx_246_5 (by decide) dX6_restsOf_31 ?_
      refine V.iload 6 dX6_restsOf_34 rfl ?_
      refine V.bipush (v := 10) dX6_restsOf_36 (by decide) ?_
      refine V.imul dX6_restsOf_38 ?_
      refine V.iload 7 dX6_restsOf_39 rfl ?_
      refine V.iadd dX6_restsOf_41 ?_
      refine V.aload_n 0 dX6_restsOf_42 rfl rfl ?_
      refine V.iload_n 1 dX6_restsOf_43 rfl rfl ?_
      refine V.iload_n 2 dX6_restsOf_44 rfl rfl ?_
      refine V.iload_n 3 dX6_restsOf_45 rfl rfl ?_
      refine V.iload 6 dX6_restsOf_46 rfl ?_
      refine V.iload 7 dX6_restsOf_48 rfl ?_
      obtain ⟨r51, h53, hc52, hF⟩ := bd_s hF
      refine V.callVi mf_X6_enoughBehind ml_X6_162 sh_246 (s_X6_enoughBehind hc52) (by decide) rfl rfl (Nat.le_of_ble_eq_true rfl) dX6_restsOf_50 ?_
      refine V.ifz_eq (tgt := 60) dX6_restsOf_53 rfl (fun c => ?_) (fun c => ?_)
      · replace hF := iq c hF
        refine V.iconst (v := 0) dX6_restsOf_60 rfl ?_
        exact (v_X6_restsOf_61 hK13 ih hF)
      · replace hF := ip c hF
        refine V.iconst (v := 1) dX6_restsOf_56 rfl ?_
        refine V.goto (tgt := 61) dX6_restsOf_57 rfl ?_
        exact (v_X6_restsOf_61 hK13 ih hF)
def X6_restsOf_131 (n : Nat) (K82 : Int32 → Int32 → Int32 → Int32 → Mm → Option (Int32 × Mm)) (K92 : Int32 → Int32 → Int32 → Int32 → Int32 → Mm → Option (Int32 × Mm)) (x4 : Int32) (x5 : Int32) (x6 : Int32) (x7 : Int32) (x8 : Int32) (h : Mm) : Option (Int32 × Mm) := (K92 x4 x5 x6 x7 (x8 + (1)) h)
set_option maxRecDepth 100000 in
set_option maxHeartbeats 4000000 in
theorem v_X6_restsOf_131 {X : WX} {G : GX} {o : Mm} {n : Nat} {K82 : Int32 → Int32 → Int32 → Int32 → Mm → Option (Int32 × Mm)} {K92 : Int32 → Int32 → Int32 → Int32 → Int32 → Mm → Option (Int32 × Mm)} {rv : Int32} {hz : Mm} (hK82 : ∀ (x4 : Int32) (x5 : Int32) (x6 : Int32) (x7 : Int32) (h : Mm), K82 x4 x5 x6 x7 h = some (rv, hz) → V X G RX6 cX6_restsOf 9 (some .int) 6 0 0 (QR X G true o (some (.int rv)) hz) true o 82 [(0, .ref (xa X 246)), (4, .int x4), (5, .int x5), (6, .int x6), (7, .int x7)] [] h) (hK92 : ∀ (x4 : Int32) (x5 : Int32) (x6 : Int32) (x7 : Int32) (x8 : Int32) (h : Mm), K92 x4 x5 x6 x7 x8 h = some (rv, hz) → V X G RX6 cX6_restsOf 9 (some .int) 6 0 0 (QR X G true o (some (.int rv)) hz) true o 92 [(0, .ref (xa X 246)), (4, .int x4), (5, .int x5), (6, .int x6), (7, .int x7), (8, .int x8)] [] h) {x4 : Int32} {x5 : Int32} {x6 : Int32} {x7 : Int32} {x8 : Int32} {h : Mm} (hF : X6_restsOf_131 n K82 K92 x4 x5 x6 x7 x8 h = some (rv, hz)) : V X G RX6 cX6_restsOf 9 (some .int) 6 0 0 (QR X G true o (some (.int rv)) hz) true o 131 [(0, .ref (xa X 246)), (4, .int x4), (5, .int x5), (6, .int x6), (7, .int x7), (8, .int x8)] [] h := by
  unfold X6_restsOf_131 at hF
  refine V.iinc (v := (x8 + (1))) 5 [(8, _), (0, _), (4, _), (5, _), (6, _), (7, _)] dX6_restsOf_131 rfl rfl (by decide) rfl ?_
  refine V.goto (tgt := 92) dX6_restsOf_134 rfl ?_
  exact V.sub [1, 2, 3, 4, 5, 0] rfl (hK92 _ _ _ _ _ _ hF)
def X6_restsOf_92 (n : Nat) (K82 : Int32 → Int32 → Int32 → Int32 → Mm → Option (Int32 × Mm)) : Nat → Int32 → Int32 → Int32 → Int32 → Int32 → Mm → Option (Int32 × Mm)
  | 0, _, _, _, _, _, _ => none
  | f + 1, x4, x5, x6, x7, x8, h => (if x5 < x8 then (K82 x4 x5 x6 (x7 + (1)) h) else (bp (X6_isRest n x7 x8 x5 h) (fun r54 => (if r54 = true then (if x6 = x4 then (some (((x7 * (10 : Int32)) + x8), h)) else (X6_restsOf_131 n K82 (X6_restsOf_92 n K82 f) x4 x5 (x6 + (1)) x7 x8 h)) else (X6_restsOf_131 n K82 (X6_restsOf_92 n K82 f) x4 x5 x6 x7 x8 h)))))
set_option maxRecDepth 100000 in
set_option maxHeartbeats 4000000 in
theorem v_X6_restsOf_92 {X : WX} {G : GX} {o : Mm} {n : Nat} {K82 : Int32 → Int32 → Int32 → Int32 → Mm → Option (Int32 × Mm)} {rv : Int32} {hz : Mm} (hK82 : ∀ (x4 : Int32) (x5 : Int32) (x6 : Int32) (x7 : Int32) (h : Mm), K82 x4 x5 x6 x7 h = some (rv, hz) → V X G RX6 cX6_restsOf 9 (some .int) 6 0 0 (QR X G true o (some (.int rv)) hz) true o 82 [(0, .ref (xa X 246)), (4, .int x4), (5, .int x5), (6, .int x6), (7, .int x7)] [] h) : ∀ (f : Nat) (x4 : Int32) (x5 : Int32) (x6 : Int32) (x7 : Int32) (x8 : Int32) (h : Mm), X6_restsOf_92 n K82 f x4 x5 x6 x7 x8 h = some (rv, hz) → V X G RX6 cX6_restsOf 9 (some .int) 6 0 0 (QR X G true o (some (.int rv)) hz) true o 92 [(0, .ref (xa X 246)), (4, .int x4), (5, .int x5), (6, .int x6), (7, .int x7), (8, .int x8)] [] h := by
  intro f
  induction f with
  | zero => intro x4 x5 x6 x7 x8 h hF; exact nomatch (show (none : Option (Int32 × Mm)) = some (rv, hz) from hF)
  | succ f ih =>
    intro x4 x5 x6 x7 x8 h hF
    unfold X6_restsOf_92 at hF
    refine V.iload 5 dX6_restsOf_92 rfl ?_
    refine V.iload 2 dX6_restsOf_94 rfl ?_
    refine V.icmp_gt (tgt := 137) dX6_restsOf_96 rfl (fun c => ?_) (fun c => ?_)
    · replace hF := ip c hF
      refine V.iinc (v := (x7 + (1))) 4 [(7, _), (0, _), (4, _), (5, _), (6, _), (8, _)] dX6_restsOf_137 rfl rfl (by decide) rfl ?_
      refine V.goto (tgt := 82) dX6_restsOf_140 rfl ?_
      exact V.sub [1, 2, 3, 4, 0] rfl (hK82 _ _ _ _ _ hF)
    · replace hF := iq c hF
      refine V.aload_n 0 dX6_restsOf_99 rfl rfl ?_
      refine V.iload 4 dX6_restsOf_100 rfl ?_
      refine V.iload 5 dX6_restsOf_102 rfl ?_
      refine V.iload 2 dX6_restsOf_104 rfl ?_
      obtain ⟨r54, hc55, hF⟩ := bp_s hF
      refine V.callVi mf_X6_isRest ml_X6_166 sh_246 (s_X6_isRest hc55) (by decide) rfl rfl (Nat.le_of_ble_eq_true rfl) dX6_restsOf_106 ?_
      refine V.ifz_eq (tgt := 131) dX6_restsOf_109 rfl (fun c => ?_) (fun c => ?_)
      · replace hF := iq c hF
        exact (v_X6_restsOf_131 hK82 ih hF)
      · replace hF := ip c hF
        refine V.iload 3 dX6_restsOf_112 rfl ?_
        refine V.iload 1 dX6_restsOf_114 rfl ?_
        refine V.icmp_ne (tgt := 128) dX6_restsOf_116 rfl (fun c => ?_) (fun c => ?_)
        · replace hF := iq c hF
          refine V.iinc (v := (x6 + (1))) 3 [(6, _), (0, _), (4, _), (5, _), (7, _), (8, _)] dX6_restsOf_128 rfl rfl (by decide) rfl ?_
          exact V.sub [1, 2, 3, 0, 4, 5] rfl (v_X6_restsOf_131 hK82 ih hF)
        · replace hF := ip c hF
          refine V.iload 4 dX6_restsOf_119 rfl ?_
          refine V.bipush (v := 10) dX6_restsOf_121 (by decide) ?_
          refine V.imul dX6_restsOf_123 ?_
          refine V.iload 5 dX6_restsOf_124 rfl ?_
          refine V.iadd dX6_restsOf_126 ?_
          cases hF
          exact V.iret dX6_restsOf_127
def X6_restsOf_82 (n : Nat) : Nat → Int32 → Int32 → Int32 → Int32 → Mm → Option (Int32 × Mm)
  | 0, _, _, _, _, _ => none
  | f + 1, x4, x5, x6, x7, h => (if x5 < x7 then (if x4 = (-1 : Int32) then (some (x6, h)) else (some ((-1 : Int32), h))) else (X6_restsOf_92 n (X6_restsOf_82 n f) n x4 x5 x6 x7 (0 : Int32) h))
set_option maxRecDepth 100000 in
set_option maxHeartbeats 4000000 in
theorem v_X6_restsOf_82 {X : WX} {G : GX} {o : Mm} {n : Nat} {rv : Int32} {hz : Mm} : ∀ (f : Nat) (x4 : Int32) (x5 : Int32) (x6 : Int32) (x7 : Int32) (h : Mm), X6_restsOf_82 n f x4 x5 x6 x7 h = some (rv, hz) → V X G RX6 cX6_restsOf 9 (some .int) 6 0 0 (QR X G true o (some (.int rv)) hz) true o 82 [(0, .ref (xa X 246)), (4, .int x4), (5, .int x5), (6, .int x6), (7, .int x7)] [] h := by
  intro f
  induction f with
  | zero => intro x4 x5 x6 x7 h hF; exact nomatch (show (none : Option (Int32 × Mm)) = some (rv, hz) from hF)
  | succ f ih =>
    intro x4 x5 x6 x7 h hF
    unfold X6_restsOf_82 at hF
    refine V.iload 4 dX6_restsOf_82 rfl ?_
    refine V.iload 2 dX6_restsOf_84 rfl ?_
    refine V.icmp_gt (tgt := 143) dX6_restsOf_86 rfl (fun c => ?_) (fun c => ?_)
    · replace hF := ip c hF
      refine V.iload 1 dX6_restsOf_143 rfl ?_
      refine V.iconst (v := -1) dX6_restsOf_145 rfl ?_
      refine V.icmp_ne (tgt := 154) dX6_restsOf_146 rfl (fun c => ?_) (fun c => ?_)
      · replace hF := iq c hF
        refine V.iconst (v := -1) dX6_restsOf_154 rfl ?_
        cases hF
        exact V.iret dX6_restsOf_155
      · replace hF := ip c hF
        refine V.iload 3 dX6_restsOf_149 rfl ?_
        refine V.goto (tgt := 155) dX6_restsOf_151 rfl ?_
        cases hF
        exact V.iret dX6_restsOf_155
    · replace hF := iq c hF
      refine V.iconst (v := 0) dX6_restsOf_89 rfl ?_
      refine V.istore [(8, _), (0, _), (4, _), (5, _), (6, _), (7, _)] dX6_restsOf_90 (by decide) rfl ?_
      exact V.sub [1, 2, 3, 4, 5, 0] rfl (v_X6_restsOf_92 ih n _ _ _ _ _ _ hF)
def X6_restsOf_13 (n : Nat) : Nat → Int32 → Int32 → Int32 → Int32 → Int32 → Int32 → Mm → Option (Int32 × Mm)
  | 0, _, _, _, _, _, _, _ => none
  | f + 1, x1, x2, x3, x4, x5, x6, h => (if x5 < x6 then (X6_restsOf_82 n n x4 x5 (0 : Int32) (0 : Int32) h) else (X6_restsOf_23 n (X6_restsOf_13 n f) n x1 x2 x3 x4 x5 x6 (0 : Int32) h))
set_option maxRecDepth 100000 in
set_option maxHeartbeats 4000000 in
theorem v_X6_restsOf_13 {X : WX} {G : GX} {o : Mm} {n : Nat} {rv : Int32} {hz : Mm} : ∀ (f : Nat) (x1 : Int32) (x2 : Int32) (x3 : Int32) (x4 : Int32) (x5 : Int32) (x6 : Int32) (h : Mm), X6_restsOf_13 n f x1 x2 x3 x4 x5 x6 h = some (rv, hz) → V X G RX6 cX6_restsOf 9 (some .int) 6 0 0 (QR X G true o (some (.int rv)) hz) true o 13 [(0, .ref (xa X 246)), (1, .int x1), (2, .int x2), (3, .int x3), (4, .int x4), (5, .int x5), (6, .int x6)] [] h := by
  intro f
  induction f with
  | zero => intro x1 x2 x3 x4 x5 x6 h hF; exact nomatch (show (none : Option (Int32 × Mm)) = some (rv, hz) from hF)
  | succ f ih =>
    intro x1 x2 x3 x4 x5 x6 h hF
    unfold X6_restsOf_13 at hF
    refine V.iload 6 dX6_restsOf_13 rfl ?_
    refine V.iload 5 dX6_restsOf_15 rfl ?_
    refine V.icmp_gt (tgt := 76) dX6_restsOf_17 rfl (fun c => ?_) (fun c => ?_)
    · replace hF := ip c hF
      refine V.iconst (v := 0) dX6_restsOf_76 rfl ?_
      refine V.istore [(6, _), (0, _), (1, _), (2, _), (3, _), (4, _), (5, _)] dX6_restsOf_77 (by decide) rfl ?_
      refine V.iconst (v := 0) dX6_restsOf_79 rfl ?_
      refine V.istore [(7, _), (6, _), (0, _), (1, _), (2, _), (3, _), (4, _), (5, _)] dX6_restsOf_80 (by decide) rfl ?_
      exact V.sub [2, 6, 7, 1, 0] rfl (v_X6_restsOf_82 n _ _ _ _ _ hF)
    · replace hF := iq c hF
      refine V.iconst (v := 0) dX6_restsOf_20 rfl ?_
      refine V.istore [(7, _), (0, _), (1, _), (2, _), (3, _), (4, _), (5, _), (6, _)] dX6_restsOf_21 (by decide) rfl ?_
      exact V.sub [1, 2, 3, 4, 5, 6, 7, 0] rfl (v_X6_restsOf_23 ih n _ _ _ _ _ _ _ _ hF)
def X6_restsOf (n : Nat) (x1 : Int32) (x2 : Int32) (x3 : Int32) (x4 : Int32) (h : Mm) : Option (Int32 × Mm) := (bp (X1_pagesOf 13 x3 h) (fun r56 => (X6_restsOf_13 n n x1 x2 x3 x4 r56 (0 : Int32) h)))
set_option maxRecDepth 100000 in
set_option maxHeartbeats 4000000 in
theorem s_X6_restsOf {X : WX} {o : Mm} {n : Nat} {x1 : Int32} {x2 : Int32} {x3 : Int32} {x4 : Int32} {rv : Int32} {hz : Mm} {h : Mm} (hF : X6_restsOf n x1 x2 x3 x4 h = some (rv, hz)) : Sat X yX6_restsOf cX6_restsOf 9 (some .int) 6 [.ref (xa X 246), .int x1, .int x2, .int x3, .int x4] true o h (some (.int rv)) hz := by
  unfold X6_restsOf at hF
  refine Sat.mk (own := RX6) rfl (by decide +kernel) (Nat.le_of_ble_eq_true rfl) (fun G => ?_)
  refine V.sub (lv2 := [(0, _), (1, _), (2, _), (3, _), (4, _)]) [0, 1, 2, 3, 4] rfl ?_
  refine V.aload_n 0 dX6_restsOf_0 rfl rfl ?_
  refine V.getR (v := 13) fl_X6_28 sh_246 rfl fx_246_1 (by decide) dX6_restsOf_1 ?_
  refine V.iload_n 3 dX6_restsOf_4 rfl rfl ?_
  obtain ⟨r56, hc57, hF⟩ := bp_s hF
  refine V.callVi mf_X1_pagesOf ml_X6_95 sh_13 (s_X1_pagesOf (Or.inr rfl) hc57) (by decide) rfl rfl (Nat.le_of_ble_eq_true rfl) dX6_restsOf_5 ?_
  refine V.istore [(5, _), (0, _), (1, _), (2, _), (3, _), (4, _)] dX6_restsOf_8 (by decide) rfl ?_
  refine V.iconst (v := 0) dX6_restsOf_10 rfl ?_
  refine V.istore [(6, _), (5, _), (0, _), (1, _), (2, _), (3, _), (4, _)] dX6_restsOf_11 (by decide) rfl ?_
  exact V.sub [2, 3, 4, 5, 6, 1, 0] rfl (v_X6_restsOf_13 n _ _ _ _ _ _ _ hF)
/-! MonsterCot.rests -/
theorem dX11_rests_0 : decode cX11_rests 0 = .ok (.aload_n 0, 1) := by decide +kernel
theorem dX11_rests_1 : decode cX11_rests 1 = .ok (.iload_n 1, 1) := by decide +kernel
theorem dX11_rests_2 : decode cX11_rests 2 = .ok (.iload_n 2, 1) := by decide +kernel
theorem dX11_rests_3 : decode cX11_rests 3 = .ok (.iload_n 3, 1) := by decide +kernel
theorem dX11_rests_4 : decode cX11_rests 4 = .ok (.invokevirtual 330, 3) := by decide +kernel
theorem dX11_rests_7 : decode cX11_rests 7 = .ok (.ifCond .eq 18, 3) := by decide +kernel
theorem dX11_rests_10 : decode cX11_rests 10 = .ok (.aload_n 0, 1) := by decide +kernel
theorem dX11_rests_11 : decode cX11_rests 11 = .ok (.getfield 84, 3) := by decide +kernel
theorem dX11_rests_14 : decode cX11_rests 14 = .ok (.iload_n 1, 1) := by decide +kernel
theorem dX11_rests_15 : decode cX11_rests 15 = .ok (.iload_n 2, 1) := by decide +kernel
theorem dX11_rests_16 : decode cX11_rests 16 = .ok (.iload_n 3, 1) := by decide +kernel
theorem dX11_rests_17 : decode cX11_rests 17 = .ok (.iload 4, 2) := by decide +kernel
theorem dX11_rests_19 : decode cX11_rests 19 = .ok (.invokevirtual 341, 3) := by decide +kernel
theorem dX11_rests_22 : decode cX11_rests 22 = .ok (.goto 4, 3) := by decide +kernel
theorem dX11_rests_25 : decode cX11_rests 25 = .ok (.iconst (-1), 1) := by decide +kernel
theorem dX11_rests_26 : decode cX11_rests 26 = .ok (.ireturn, 1) := by decide +kernel
def X11_rests (n : Nat) (x1 : Int32) (x2 : Int32) (x3 : Int32) (x4 : Int32) (h : Mm) : Option (Int32 × Mm) := (bp (X11_canPlay x1 x2 x3 h) (fun r6 => (if r6 = true then (bd (X6_restsOf n x1 x2 x3 x4 h) (fun r8 h10 => (some (r8, h10)))) else (some ((-1 : Int32), h)))))
set_option maxRecDepth 100000 in
set_option maxHeartbeats 4000000 in
theorem s_X11_rests {X : WX} {o : Mm} {n : Nat} {x1 : Int32} {x2 : Int32} {x3 : Int32} {x4 : Int32} {rv : Int32} {hz : Mm} {h : Mm} (hF : X11_rests n x1 x2 x3 x4 h = some (rv, hz)) : Sat X yX11_rests cX11_rests 5 (some .int) 7 [.ref (xa X 0), .int x1, .int x2, .int x3, .int x4] true o h (some (.int rv)) hz := by
  unfold X11_rests at hF
  refine Sat.mk (own := RX11) rfl (by decide +kernel) (Nat.le_of_ble_eq_true rfl) (fun G => ?_)
  refine V.sub (lv2 := [(0, _), (1, _), (2, _), (3, _), (4, _)]) [0, 1, 2, 3, 4] rfl ?_
  refine V.aload_n 0 dX11_rests_0 rfl rfl ?_
  refine V.iload_n 1 dX11_rests_1 rfl rfl ?_
  refine V.iload_n 2 dX11_rests_2 rfl rfl ?_
  refine V.iload_n 3 dX11_rests_3 rfl rfl ?_
  obtain ⟨r6, hc7, hF⟩ := bp_s hF
  refine V.callVi mf_X11_canPlay ml_X11_330 sh_0 (s_X11_canPlay hc7) (by decide) rfl rfl (Nat.le_of_ble_eq_true rfl) dX11_rests_4 ?_
  refine V.ifz_eq (tgt := 25) dX11_rests_7 rfl (fun c => ?_) (fun c => ?_)
  · replace hF := iq c hF
    refine V.iconst (v := -1) dX11_rests_25 rfl ?_
    cases hF
    exact V.iret dX11_rests_26
  · replace hF := ip c hF
    refine V.aload_n 0 dX11_rests_10 rfl rfl ?_
    refine V.getR (v := 246) fl_X11_84 sh_0 rfl fx_0_10 (by decide) dX11_rests_11 ?_
    refine V.iload_n 1 dX11_rests_14 rfl rfl ?_
    refine V.iload_n 2 dX11_rests_15 rfl rfl ?_
    refine V.iload_n 3 dX11_rests_16 rfl rfl ?_
    refine V.iload 4 dX11_rests_17 rfl ?_
    obtain ⟨r8, h10, hc9, hF⟩ := bd_s hF
    refine V.callVi mf_X6_restsOf ml_X11_341 sh_246 (s_X6_restsOf hc9) (by decide) rfl rfl (Nat.le_of_ble_eq_true rfl) dX11_rests_19 ?_
    refine V.goto (tgt := 26) dX11_rests_22 rfl ?_
    cases hF
    exact V.iret dX11_rests_26
/-! MonsterCot.odds -/
theorem dX11_odds_0 : decode cX11_odds 0 = .ok (.aload_n 0, 1) := by decide +kernel
theorem dX11_odds_1 : decode cX11_odds 1 = .ok (.getfield 42, 3) := by decide +kernel
theorem dX11_odds_4 : decode cX11_odds 4 = .ok (.iload_n 1, 1) := by decide +kernel
theorem dX11_odds_5 : decode cX11_odds 5 = .ok (.invokevirtual 153, 3) := by decide +kernel
theorem dX11_odds_8 : decode cX11_odds 8 = .ok (.ifCond .eq 13, 3) := by decide +kernel
theorem dX11_odds_11 : decode cX11_odds 11 = .ok (.iload_n 2, 1) := by decide +kernel
theorem dX11_odds_12 : decode cX11_odds 12 = .ok (.ifCond .lt 9, 3) := by decide +kernel
theorem dX11_odds_15 : decode cX11_odds 15 = .ok (.iload_n 2, 1) := by decide +kernel
theorem dX11_odds_16 : decode cX11_odds 16 = .ok (.bipush 100, 2) := by decide +kernel
theorem dX11_odds_18 : decode cX11_odds 18 = .ok (.if_icmp .le 5, 3) := by decide +kernel
theorem dX11_odds_21 : decode cX11_odds 21 = .ok (.iconst (-1), 1) := by decide +kernel
theorem dX11_odds_22 : decode cX11_odds 22 = .ok (.ireturn, 1) := by decide +kernel
theorem dX11_odds_23 : decode cX11_odds 23 = .ok (.ldc_w 345, 3) := by decide +kernel
theorem dX11_odds_26 : decode cX11_odds 26 = .ok (.istore_n 3, 1) := by decide +kernel
theorem dX11_odds_27 : decode cX11_odds 27 = .ok (.iconst 0, 1) := by decide +kernel
theorem dX11_odds_28 : decode cX11_odds 28 = .ok (.istore 4, 2) := by decide +kernel
theorem dX11_odds_30 : decode cX11_odds 30 = .ok (.iload 4, 2) := by decide +kernel
theorem dX11_odds_32 : decode cX11_odds 32 = .ok (.aload_n 0, 1) := by decide +kernel
theorem dX11_odds_33 : decode cX11_odds 33 = .ok (.getfield 42, 3) := by decide +kernel
theorem dX11_odds_36 : decode cX11_odds 36 = .ok (.iload_n 1, 1) := by decide +kernel
theorem dX11_odds_37 : decode cX11_odds 37 = .ok (.invokevirtual 163, 3) := by decide +kernel
theorem dX11_odds_40 : decode cX11_odds 40 = .ok (.if_icmp .ge 18, 3) := by decide +kernel
theorem dX11_odds_43 : decode cX11_odds 43 = .ok (.iload_n 3, 1) := by decide +kernel
theorem dX11_odds_44 : decode cX11_odds 44 = .ok (.iload_n 3, 1) := by decide +kernel
theorem dX11_odds_45 : decode cX11_odds 45 = .ok (.iload_n 2, 1) := by decide +kernel
theorem dX11_odds_46 : decode cX11_odds 46 = .ok (.imul, 1) := by decide +kernel
theorem dX11_odds_47 : decode cX11_odds 47 = .ok (.bipush 100, 2) := by decide +kernel
theorem dX11_odds_49 : decode cX11_odds 49 = .ok (.idiv, 1) := by decide +kernel
theorem dX11_odds_50 : decode cX11_odds 50 = .ok (.isub, 1) := by decide +kernel
theorem dX11_odds_51 : decode cX11_odds 51 = .ok (.istore_n 3, 1) := by decide +kernel
theorem dX11_odds_52 : decode cX11_odds 52 = .ok (.iinc 4 1, 3) := by decide +kernel
theorem dX11_odds_55 : decode cX11_odds 55 = .ok (.goto (-25), 3) := by decide +kernel
theorem dX11_odds_58 : decode cX11_odds 58 = .ok (.iload_n 3, 1) := by decide +kernel
theorem dX11_odds_59 : decode cX11_odds 59 = .ok (.ireturn, 1) := by decide +kernel
def X11_odds_30 (n : Nat) : Nat → Int32 → Int32 → Int32 → Int32 → Mm → Option Int32
  | 0, _, _, _, _, _ => none
  | f + 1, x1, x2, x3, x4, h => (bp (X1_childrenOf 13 x1 h) (fun r9 => (if r9 ≤ x4 then (some x3) else ((X11_odds_30 n f) x1 x2 (x3 - ((x3 * x2) / (100 : Int32))) (x4 + (1)) h))))
set_option maxRecDepth 100000 in
set_option maxHeartbeats 4000000 in
theorem v_X11_odds_30 {X : WX} {G : GX} {o : Mm} {n : Nat} {rv : Int32} {h : Mm} : ∀ (f : Nat) (x1 : Int32) (x2 : Int32) (x3 : Int32) (x4 : Int32), X11_odds_30 n f x1 x2 x3 x4 h = some rv → V X G RX11 cX11_odds 5 (some .int) 4 0 0 (QR X G true o (some (.int rv)) h) true o 30 [(0, .ref (xa X 0)), (1, .int x1), (2, .int x2), (3, .int x3), (4, .int x4)] [] h := by
  intro f
  induction f with
  | zero => intro x1 x2 x3 x4 hF; exact nomatch (show (none : Option Int32) = some rv from hF)
  | succ f ih =>
    intro x1 x2 x3 x4 hF
    unfold X11_odds_30 at hF
    refine V.iload 4 dX11_odds_30 rfl ?_
    refine V.aload_n 0 dX11_odds_32 rfl rfl ?_
    refine V.getR (v := 13) fl_X11_42 sh_0 rfl fx_0_4 (by decide) dX11_odds_33 ?_
    refine V.iload_n 1 dX11_odds_36 rfl rfl ?_
    obtain ⟨r9, hc10, hF⟩ := bp_s hF
    refine V.callVi mf_X1_childrenOf ml_X11_163 sh_13 (s_X1_childrenOf (Or.inr rfl) hc10) (by decide) rfl rfl (Nat.le_of_ble_eq_true rfl) dX11_odds_37 ?_
    refine V.icmp_ge (tgt := 58) dX11_odds_40 rfl (fun c => ?_) (fun c => ?_)
    · replace hF := ip c hF
      refine V.iload_n 3 dX11_odds_58 rfl rfl ?_
      cases hF
      exact V.iret dX11_odds_59
    · replace hF := iq c hF
      refine V.iload_n 3 dX11_odds_43 rfl rfl ?_
      refine V.iload_n 3 dX11_odds_44 rfl rfl ?_
      refine V.iload_n 2 dX11_odds_45 rfl rfl ?_
      refine V.imul dX11_odds_46 ?_
      refine V.bipush (v := 100) dX11_odds_47 (by decide) ?_
      refine V.idiv dX11_odds_49 (by decide) ?_
      refine V.isub dX11_odds_50 ?_
      refine V.istore_n [(3, _), (0, _), (1, _), (2, _), (4, _)] dX11_odds_51 rfl (by decide) rfl ?_
      refine V.iinc (v := (x4 + (1))) 4 [(4, _), (3, _), (0, _), (1, _), (2, _)] dX11_odds_52 rfl rfl (by decide) rfl ?_
      refine V.goto (tgt := 30) dX11_odds_55 rfl ?_
      exact V.sub [2, 3, 4, 1, 0] rfl (ih _ _ _ _ hF)
def X11_odds (n : Nat) (x1 : Int32) (x2 : Int32) (h : Mm) : Option Int32 := (bp (X1_hasHouse 13 x1 h) (fun r11 => (if r11 = true then (if x2 < 0 then (some (-1 : Int32)) else (if x2 ≤ (100 : Int32) then (X11_odds_30 n n x1 x2 (1000000 : Int32) (0 : Int32) h) else (some (-1 : Int32)))) else (some (-1 : Int32)))))
set_option maxRecDepth 100000 in
set_option maxHeartbeats 4000000 in
theorem s_X11_odds {X : WX} {o : Mm} {n : Nat} {x1 : Int32} {x2 : Int32} {rv : Int32} {h : Mm} (hF : X11_odds n x1 x2 h = some rv) : Sat X yX11_odds cX11_odds 5 (some .int) 4 [.ref (xa X 0), .int x1, .int x2] true o h (some (.int rv)) h := by
  unfold X11_odds at hF
  refine Sat.mk (own := RX11) rfl (by decide +kernel) (Nat.le_of_ble_eq_true rfl) (fun G => ?_)
  refine V.sub (lv2 := [(0, _), (1, _), (2, _)]) [0, 1, 2] rfl ?_
  refine V.aload_n 0 dX11_odds_0 rfl rfl ?_
  refine V.getR (v := 13) fl_X11_42 sh_0 rfl fx_0_4 (by decide) dX11_odds_1 ?_
  refine V.iload_n 1 dX11_odds_4 rfl rfl ?_
  obtain ⟨r11, hc12, hF⟩ := bp_s hF
  refine V.callVi mf_X1_hasHouse ml_X11_153 sh_13 (s_X1_hasHouse (Or.inr rfl) hc12) (by decide) rfl rfl (Nat.le_of_ble_eq_true rfl) dX11_odds_5 ?_
  refine V.ifz_eq (tgt := 21) dX11_odds_8 rfl (fun c => ?_) (fun c => ?_)
  · replace hF := iq c hF
    refine V.iconst (v := -1) dX11_odds_21 rfl ?_
    cases hF
    exact V.iret dX11_odds_22
  · replace hF := ip c hF
    refine V.iload_n 2 dX11_odds_11 rfl rfl ?_
    refine V.if_lt (tgt := 21) dX11_odds_12 rfl (fun c => ?_) (fun c => ?_)
    · replace hF := ip c hF
      refine V.iconst (v := -1) dX11_odds_21 rfl ?_
      cases hF
      exact V.iret dX11_odds_22
    · replace hF := iq c hF
      refine V.iload_n 2 dX11_odds_15 rfl rfl ?_
      refine V.bipush (v := 100) dX11_odds_16 (by decide) ?_
      refine V.icmp_le (tgt := 23) dX11_odds_18 rfl (fun c => ?_) (fun c => ?_)
      · replace hF := ip c hF
        refine V.ldcw (v := 1000000) dX11_odds_23 kc_X11_345 ?_
        refine V.istore_n [(3, _), (0, _), (1, _), (2, _)] dX11_odds_26 rfl (by decide) rfl ?_
        refine V.iconst (v := 0) dX11_odds_27 rfl ?_
        refine V.istore [(4, _), (3, _), (0, _), (1, _), (2, _)] dX11_odds_28 (by decide) rfl ?_
        exact V.sub [2, 3, 4, 1, 0] rfl (v_X11_odds_30 n _ _ _ _ hF)
      · replace hF := iq c hF
        refine V.iconst (v := -1) dX11_odds_21 rfl ?_
        cases hF
        exact V.iret dX11_odds_22
/-! MonsterCot$Search.readingsOf -/
theorem dX6_readingsOf_0 : decode cX6_readingsOf 0 = .ok (.aload_n 0, 1) := by decide +kernel
theorem dX6_readingsOf_1 : decode cX6_readingsOf 1 = .ok (.getfield 28, 3) := by decide +kernel
theorem dX6_readingsOf_4 : decode cX6_readingsOf 4 = .ok (.iload_n 1, 1) := by decide +kernel
theorem dX6_readingsOf_5 : decode cX6_readingsOf 5 = .ok (.invokevirtual 95, 3) := by decide +kernel
theorem dX6_readingsOf_8 : decode cX6_readingsOf 8 = .ok (.istore_n 2, 1) := by decide +kernel
theorem dX6_readingsOf_9 : decode cX6_readingsOf 9 = .ok (.aload_n 0, 1) := by decide +kernel
theorem dX6_readingsOf_10 : decode cX6_readingsOf 10 = .ok (.getfield 34, 3) := by decide +kernel
theorem dX6_readingsOf_13 : decode cX6_readingsOf 13 = .ok (.getfield 83, 3) := by decide +kernel
theorem dX6_readingsOf_16 : decode cX6_readingsOf 16 = .ok (.aload_n 0, 1) := by decide +kernel
theorem dX6_readingsOf_17 : decode cX6_readingsOf 17 = .ok (.getfield 34, 3) := by decide +kernel
theorem dX6_readingsOf_20 : decode cX6_readingsOf 20 = .ok (.getfield 86, 3) := by decide +kernel
theorem dX6_readingsOf_23 : decode cX6_readingsOf 23 = .ok (.invokestatic 79, 3) := by decide +kernel
theorem dX6_readingsOf_26 : decode cX6_readingsOf 26 = .ok (.istore_n 3, 1) := by decide +kernel
theorem dX6_readingsOf_27 : decode cX6_readingsOf 27 = .ok (.aload_n 0, 1) := by decide +kernel
theorem dX6_readingsOf_28 : decode cX6_readingsOf 28 = .ok (.getfield 34, 3) := by decide +kernel
theorem dX6_readingsOf_31 : decode cX6_readingsOf 31 = .ok (.getfield 52, 3) := by decide +kernel
theorem dX6_readingsOf_34 : decode cX6_readingsOf 34 = .ok (.istore 4, 2) := by decide +kernel
theorem dX6_readingsOf_36 : decode cX6_readingsOf 36 = .ok (.aload_n 0, 1) := by decide +kernel
theorem dX6_readingsOf_37 : decode cX6_readingsOf 37 = .ok (.getfield 34, 3) := by decide +kernel
theorem dX6_readingsOf_40 : decode cX6_readingsOf 40 = .ok (.getfield 45, 3) := by decide +kernel
theorem dX6_readingsOf_43 : decode cX6_readingsOf 43 = .ok (.aload_n 0, 1) := by decide +kernel
theorem dX6_readingsOf_44 : decode cX6_readingsOf 44 = .ok (.getfield 28, 3) := by decide +kernel
theorem dX6_readingsOf_47 : decode cX6_readingsOf 47 = .ok (.iload_n 1, 1) := by decide +kernel
theorem dX6_readingsOf_48 : decode cX6_readingsOf 48 = .ok (.invokevirtual 76, 3) := by decide +kernel
theorem dX6_readingsOf_51 : decode cX6_readingsOf 51 = .ok (.invokestatic 79, 3) := by decide +kernel
theorem dX6_readingsOf_54 : decode cX6_readingsOf 54 = .ok (.istore 5, 2) := by decide +kernel
theorem dX6_readingsOf_56 : decode cX6_readingsOf 56 = .ok (.iconst 0, 1) := by decide +kernel
theorem dX6_readingsOf_57 : decode cX6_readingsOf 57 = .ok (.istore 6, 2) := by decide +kernel
theorem dX6_readingsOf_59 : decode cX6_readingsOf 59 = .ok (.iload 6, 2) := by decide +kernel
theorem dX6_readingsOf_61 : decode cX6_readingsOf 61 = .ok (.bipush 20, 2) := by decide +kernel
theorem dX6_readingsOf_63 : decode cX6_readingsOf 63 = .ok (.if_icmp .ge 95, 3) := by decide +kernel
theorem dX6_readingsOf_66 : decode cX6_readingsOf 66 = .ok (.iconst 0, 1) := by decide +kernel
theorem dX6_readingsOf_67 : decode cX6_readingsOf 67 = .ok (.istore 7, 2) := by decide +kernel
theorem dX6_readingsOf_69 : decode cX6_readingsOf 69 = .ok (.iload 7, 2) := by decide +kernel
theorem dX6_readingsOf_71 : decode cX6_readingsOf 71 = .ok (.iload_n 2, 1) := by decide +kernel
theorem dX6_readingsOf_72 : decode cX6_readingsOf 72 = .ok (.if_icmp .ge 41, 3) := by decide +kernel
theorem dX6_readingsOf_75 : decode cX6_readingsOf 75 = .ok (.iload 4, 2) := by decide +kernel
theorem dX6_readingsOf_77 : decode cX6_readingsOf 77 = .ok (.aload_n 0, 1) := by decide +kernel
theorem dX6_readingsOf_78 : decode cX6_readingsOf 78 = .ok (.getfield 18, 3) := by decide +kernel
theorem dX6_readingsOf_81 : decode cX6_readingsOf 81 = .ok (.iload_n 1, 1) := by decide +kernel
theorem dX6_readingsOf_82 : decode cX6_readingsOf 82 = .ok (.iload 7, 2) := by decide +kernel
theorem dX6_readingsOf_84 : decode cX6_readingsOf 84 = .ok (.iload_n 3, 1) := by decide +kernel
theorem dX6_readingsOf_85 : decode cX6_readingsOf 85 = .ok (.iload 5, 2) := by decide +kernel
theorem dX6_readingsOf_87 : decode cX6_readingsOf 87 = .ok (.aload_n 0, 1) := by decide +kernel
theorem dX6_readingsOf_88 : decode cX6_readingsOf 88 = .ok (.getfield 34, 3) := by decide +kernel
theorem dX6_readingsOf_91 : decode cX6_readingsOf 91 = .ok (.getfield 107, 3) := by decide +kernel
theorem dX6_readingsOf_94 : decode cX6_readingsOf 94 = .ok (.iload 6, 2) := by decide +kernel
theorem dX6_readingsOf_96 : decode cX6_readingsOf 96 = .ok (.iadd, 1) := by decide +kernel
theorem dX6_readingsOf_97 : decode cX6_readingsOf 97 = .ok (.iconst 0, 1) := by decide +kernel
theorem dX6_readingsOf_98 : decode cX6_readingsOf 98 = .ok (.invokevirtual 178, 3) := by decide +kernel
theorem dX6_readingsOf_101 : decode cX6_readingsOf 101 = .ok (.iadd, 1) := by decide +kernel
theorem dX6_readingsOf_102 : decode cX6_readingsOf 102 = .ok (.invokestatic 116, 3) := by decide +kernel
theorem dX6_readingsOf_105 : decode cX6_readingsOf 105 = .ok (.istore 4, 2) := by decide +kernel
theorem dX6_readingsOf_107 : decode cX6_readingsOf 107 = .ok (.iinc 7 1, 3) := by decide +kernel
theorem dX6_readingsOf_110 : decode cX6_readingsOf 110 = .ok (.goto (-41), 3) := by decide +kernel
theorem dX6_readingsOf_113 : decode cX6_readingsOf 113 = .ok (.iload 4, 2) := by decide +kernel
theorem dX6_readingsOf_115 : decode cX6_readingsOf 115 = .ok (.aload_n 0, 1) := by decide +kernel
theorem dX6_readingsOf_116 : decode cX6_readingsOf 116 = .ok (.getfield 28, 3) := by decide +kernel
theorem dX6_readingsOf_119 : decode cX6_readingsOf 119 = .ok (.invokevirtual 104, 3) := by decide +kernel
theorem dX6_readingsOf_122 : decode cX6_readingsOf 122 = .ok (.if_icmp .ge 6, 3) := by decide +kernel
theorem dX6_readingsOf_125 : decode cX6_readingsOf 125 = .ok (.iload 6, 2) := by decide +kernel
theorem dX6_readingsOf_127 : decode cX6_readingsOf 127 = .ok (.ireturn, 1) := by decide +kernel
theorem dX6_readingsOf_128 : decode cX6_readingsOf 128 = .ok (.aload_n 0, 1) := by decide +kernel
theorem dX6_readingsOf_129 : decode cX6_readingsOf 129 = .ok (.getfield 18, 3) := by decide +kernel
theorem dX6_readingsOf_132 : decode cX6_readingsOf 132 = .ok (.iload 4, 2) := by decide +kernel
theorem dX6_readingsOf_134 : decode cX6_readingsOf 134 = .ok (.invokevirtual 156, 3) := by decide +kernel
theorem dX6_readingsOf_137 : decode cX6_readingsOf 137 = .ok (.istore 4, 2) := by decide +kernel
theorem dX6_readingsOf_139 : decode cX6_readingsOf 139 = .ok (.iconst 0, 1) := by decide +kernel
theorem dX6_readingsOf_140 : decode cX6_readingsOf 140 = .ok (.iload 5, 2) := by decide +kernel
theorem dX6_readingsOf_142 : decode cX6_readingsOf 142 = .ok (.invokestatic 123, 3) := by decide +kernel
theorem dX6_readingsOf_145 : decode cX6_readingsOf 145 = .ok (.iconst 1, 1) := by decide +kernel
theorem dX6_readingsOf_146 : decode cX6_readingsOf 146 = .ok (.isub, 1) := by decide +kernel
theorem dX6_readingsOf_147 : decode cX6_readingsOf 147 = .ok (.invokestatic 150, 3) := by decide +kernel
theorem dX6_readingsOf_150 : decode cX6_readingsOf 150 = .ok (.istore 5, 2) := by decide +kernel
theorem dX6_readingsOf_152 : decode cX6_readingsOf 152 = .ok (.iinc 6 1, 3) := by decide +kernel
theorem dX6_readingsOf_155 : decode cX6_readingsOf 155 = .ok (.goto (-96), 3) := by decide +kernel
theorem dX6_readingsOf_158 : decode cX6_readingsOf 158 = .ok (.bipush 20, 2) := by decide +kernel
theorem dX6_readingsOf_160 : decode cX6_readingsOf 160 = .ok (.ireturn, 1) := by decide +kernel
def X6_readingsOf_69 (n : Nat) (K59 : Int32 → Int32 → Int32 → Int32 → Int32 → Int32 → Mm → Option (Int32 × Mm)) : Nat → Int32 → Int32 → Int32 → Int32 → Int32 → Int32 → Int32 → Mm → Option (Int32 × Mm)
  | 0, _, _, _, _, _, _, _, _ => none
  | f + 1, x1, x2, x3, x4, x5, x6, x7, h => (if x2 ≤ x7 then (bp (X1_enough 13 h) (fun r72 => (if r72 ≤ x4 then (bp (X9_calmBehindNight x4 h) (fun r74 => (bp (X9_moreBored x5 h) (fun r76 => (bp (J9_max_7cf53 (0 : Int32) (r76 - (1 : Int32)) h) (fun r78 => (K59 x1 x2 x3 r74 r78 (x6 + (1)) h))))))) else (some (x6, h))))) else (bd (X9_worthOf n x1 x7 x3 x5 ((h.1 27 6) + x6) (0 : Int32) h) (fun r80 h82 => (bp (X11_heldCalm (x4 + r80) h82) (fun r83 => ((X6_readingsOf_69 n K59 f) x1 x2 x3 r83 x5 x6 (x7 + (1)) h82))))))
set_option maxRecDepth 100000 in
set_option maxHeartbeats 4000000 in
theorem v_X6_readingsOf_69 {X : WX} {G : GX} {o : Mm} {n : Nat} {K59 : Int32 → Int32 → Int32 → Int32 → Int32 → Int32 → Mm → Option (Int32 × Mm)} {rv : Int32} {hz : Mm} (hK59 : ∀ (x1 : Int32) (x2 : Int32) (x3 : Int32) (x4 : Int32) (x5 : Int32) (x6 : Int32) (h : Mm), K59 x1 x2 x3 x4 x5 x6 h = some (rv, hz) → V X G RX6 cX6_readingsOf 8 (some .int) 5 0 0 (QR X G true o (some (.int rv)) hz) true o 59 [(0, .ref (xa X 246)), (1, .int x1), (2, .int x2), (3, .int x3), (4, .int x4), (5, .int x5), (6, .int x6)] [] h) : ∀ (f : Nat) (x1 : Int32) (x2 : Int32) (x3 : Int32) (x4 : Int32) (x5 : Int32) (x6 : Int32) (x7 : Int32) (h : Mm), X6_readingsOf_69 n K59 f x1 x2 x3 x4 x5 x6 x7 h = some (rv, hz) → V X G RX6 cX6_readingsOf 8 (some .int) 5 0 0 (QR X G true o (some (.int rv)) hz) true o 69 [(0, .ref (xa X 246)), (1, .int x1), (2, .int x2), (3, .int x3), (4, .int x4), (5, .int x5), (6, .int x6), (7, .int x7)] [] h := by
  intro f
  induction f with
  | zero => intro x1 x2 x3 x4 x5 x6 x7 h hF; exact nomatch (show (none : Option (Int32 × Mm)) = some (rv, hz) from hF)
  | succ f ih =>
    intro x1 x2 x3 x4 x5 x6 x7 h hF
    unfold X6_readingsOf_69 at hF
    refine V.iload 7 dX6_readingsOf_69 rfl ?_
    refine V.iload_n 2 dX6_readingsOf_71 rfl rfl ?_
    refine V.icmp_ge (tgt := 113) dX6_readingsOf_72 rfl (fun c => ?_) (fun c => ?_)
    · replace hF := ip c hF
      refine V.iload 4 dX6_readingsOf_113 rfl ?_
      refine V.aload_n 0 dX6_readingsOf_115 rfl rfl ?_
      refine V.getR (v := 13) fl_X6_28 sh_246 rfl fx_246_1 (by decide) dX6_readingsOf_116 ?_
      obtain ⟨r72, hc73, hF⟩ := bp_s hF
      refine V.callVi mf_X1_enough ml_X6_104 sh_13 (s_X1_enough (Or.inr rfl) hc73) (by decide) rfl rfl (Nat.le_of_ble_eq_true rfl) dX6_readingsOf_119 ?_
      refine V.icmp_ge (tgt := 128) dX6_readingsOf_122 rfl (fun c => ?_) (fun c => ?_)
      · replace hF := ip c hF
        refine V.aload_n 0 dX6_readingsOf_128 rfl rfl ?_
        refine V.getR (v := 26) fl_X6_18 sh_246 rfl fx_246_0 (by decide) dX6_readingsOf_129 ?_
        refine V.iload 4 dX6_readingsOf_132 rfl ?_
        obtain ⟨r74, hc75, hF⟩ := bp_s hF
        refine V.callVi mf_X9_calmBehindNight ml_X6_156 sh_26 (s_X9_calmBehindNight hc75) (by decide) rfl rfl (Nat.le_of_ble_eq_true rfl) dX6_readingsOf_134 ?_
        refine V.istore [(4, _), (0, _), (1, _), (2, _), (3, _), (5, _), (6, _), (7, _)] dX6_readingsOf_137 (by decide) rfl ?_
        refine V.iconst (v := 0) dX6_readingsOf_139 rfl ?_
        refine V.iload 5 dX6_readingsOf_140 rfl ?_
        obtain ⟨r76, hc77, hF⟩ := bp_s hF
        refine V.callSi mf_X9_moreBored ml_X6_123 (s_X9_moreBored hc77) (by decide) rfl rfl (Nat.le_of_ble_eq_true rfl) dX6_readingsOf_142 ?_
        refine V.iconst (v := 1) dX6_readingsOf_145 rfl ?_
        refine V.isub dX6_readingsOf_146 ?_
        obtain ⟨r78, hc79, hF⟩ := bp_s hF
        refine V.callSi mf_J9_max_7cf53 ml_X6_150 (s_J9_max_7cf53 hc79) (by decide) rfl rfl (Nat.le_of_ble_eq_true rfl) dX6_readingsOf_147 ?_
        refine V.istore [(5, _), (4, _), (0, _), (1, _), (2, _), (3, _), (6, _), (7, _)] dX6_readingsOf_150 (by decide) rfl ?_
        refine V.iinc (v := (x6 + (1))) 6 [(6, _), (5, _), (4, _), (0, _), (1, _), (2, _), (3, _), (7, _)] dX6_readingsOf_152 rfl rfl (by decide) rfl ?_
        refine V.goto (tgt := 59) dX6_readingsOf_155 rfl ?_
        exact V.sub [3, 4, 5, 6, 2, 1, 0] rfl (hK59 _ _ _ _ _ _ _ hF)
      · replace hF := iq c hF
        refine V.iload 6 dX6_readingsOf_125 rfl ?_
        cases hF
        exact V.iret dX6_readingsOf_127
    · replace hF := iq c hF
      refine V.iload 4 dX6_readingsOf_75 rfl ?_
      refine V.aload_n 0 dX6_readingsOf_77 rfl rfl ?_
      refine V.getR (v := 26) fl_X6_18 sh_246 rfl fx_246_0 (by decide) dX6_readingsOf_78 ?_
      refine V.iload_n 1 dX6_readingsOf_81 rfl rfl ?_
      refine V.iload 7 dX6_readingsOf_82 rfl ?_
      refine V.iload_n 3 dX6_readingsOf_84 rfl rfl ?_
      refine V.iload 5 dX6_readingsOf_85 rfl ?_
      refine V.aload_n 0 dX6_readingsOf_87 rfl rfl ?_
      refine V.getR (v := 27) fl_X6_34 sh_246 rfl fx_246_3 (by decide) dX6_readingsOf_88 ?_
      refine V.getI fl_X6_107 sh_27 rfl km_27 dX6_readingsOf_91 ?_
      refine V.iload 6 dX6_readingsOf_94 rfl ?_
      refine V.iadd dX6_readingsOf_96 ?_
      refine V.iconst (v := 0) dX6_readingsOf_97 rfl ?_
      obtain ⟨r80, h82, hc81, hF⟩ := bd_s hF
      refine V.callVi mf_X9_worthOf ml_X6_178 sh_26 (s_X9_worthOf hc81) (by decide) rfl rfl (Nat.le_of_ble_eq_true rfl) dX6_readingsOf_98 ?_
      refine V.iadd dX6_readingsOf_101 ?_
      obtain ⟨r83, hc84, hF⟩ := bp_s hF
      refine V.callNi mf_X11_heldCalm ml_X6_116 (s_X11_heldCalm hc84) (by decide) rfl rfl (Nat.le_of_ble_eq_true rfl) dX6_readingsOf_102 ?_
      refine V.istore [(4, _), (0, _), (1, _), (2, _), (3, _), (5, _), (6, _), (7, _)] dX6_readingsOf_105 (by decide) rfl ?_
      refine V.iinc (v := (x7 + (1))) 7 [(7, _), (4, _), (0, _), (1, _), (2, _), (3, _), (5, _), (6, _)] dX6_readingsOf_107 rfl rfl (by decide) rfl ?_
      refine V.goto (tgt := 69) dX6_readingsOf_110 rfl ?_
      exact V.sub [2, 3, 4, 5, 1, 6, 7, 0] rfl (ih _ _ _ _ _ _ _ _ hF)
def X6_readingsOf_59 (n : Nat) : Nat → Int32 → Int32 → Int32 → Int32 → Int32 → Int32 → Mm → Option (Int32 × Mm)
  | 0, _, _, _, _, _, _, _ => none
  | f + 1, x1, x2, x3, x4, x5, x6, h => (if (20 : Int32) ≤ x6 then (some ((20 : Int32), h)) else (X6_readingsOf_69 n (X6_readingsOf_59 n f) n x1 x2 x3 x4 x5 x6 (0 : Int32) h))
set_option maxRecDepth 100000 in
set_option maxHeartbeats 4000000 in
theorem v_X6_readingsOf_59 {X : WX} {G : GX} {o : Mm} {n : Nat} {rv : Int32} {hz : Mm} : ∀ (f : Nat) (x1 : Int32) (x2 : Int32) (x3 : Int32) (x4 : Int32) (x5 : Int32) (x6 : Int32) (h : Mm), X6_readingsOf_59 n f x1 x2 x3 x4 x5 x6 h = some (rv, hz) → V X G RX6 cX6_readingsOf 8 (some .int) 5 0 0 (QR X G true o (some (.int rv)) hz) true o 59 [(0, .ref (xa X 246)), (1, .int x1), (2, .int x2), (3, .int x3), (4, .int x4), (5, .int x5), (6, .int x6)] [] h := by
  intro f
  induction f with
  | zero => intro x1 x2 x3 x4 x5 x6 h hF; exact nomatch (show (none : Option (Int32 × Mm)) = some (rv, hz) from hF)
  | succ f ih =>
    intro x1 x2 x3 x4 x5 x6 h hF
    unfold X6_readingsOf_59 at hF
    refine V.iload 6 dX6_readingsOf_59 rfl ?_
    refine V.bipush (v := 20) dX6_readingsOf_61 (by decide) ?_
    refine V.icmp_ge (tgt := 158) dX6_readingsOf_63 rfl (fun c => ?_) (fun c => ?_)
    · replace hF := ip c hF
      refine V.bipush (v := 20) dX6_readingsOf_158 (by decide) ?_
      cases hF
      exact V.iret dX6_readingsOf_160
    · replace hF := iq c hF
      refine V.iconst (v := 0) dX6_readingsOf_66 rfl ?_
      refine V.istore [(7, _), (0, _), (1, _), (2, _), (3, _), (4, _), (5, _), (6, _)] dX6_readingsOf_67 (by decide) rfl ?_
      exact V.sub [1, 2, 3, 4, 5, 6, 7, 0] rfl (v_X6_readingsOf_69 ih n _ _ _ _ _ _ _ _ hF)
def X6_readingsOf (n : Nat) (x1 : Int32) (h : Mm) : Option (Int32 × Mm) := (bp (X1_pagesOf 13 x1 h) (fun r85 => (bp (X11_at 30 (h.1 27 5) h) (fun r87 => (bp (X1_kindOf 13 x1 h) (fun r89 => (bp (X11_at 28 r89 h) (fun r91 => (X6_readingsOf_59 n n x1 r85 r87 (h.1 27 4) r91 (0 : Int32) h)))))))))
set_option maxRecDepth 100000 in
set_option maxHeartbeats 4000000 in
theorem s_X6_readingsOf {X : WX} {o : Mm} {n : Nat} {x1 : Int32} {rv : Int32} {hz : Mm} {h : Mm} (hF : X6_readingsOf n x1 h = some (rv, hz)) : Sat X yX6_readingsOf cX6_readingsOf 8 (some .int) 5 [.ref (xa X 246), .int x1] true o h (some (.int rv)) hz := by
  unfold X6_readingsOf at hF
  refine Sat.mk (own := RX6) rfl (by decide +kernel) (Nat.le_of_ble_eq_true rfl) (fun G => ?_)
  refine V.sub (lv2 := [(0, _), (1, _)]) [0, 1] rfl ?_
  refine V.aload_n 0 dX6_readingsOf_0 rfl rfl ?_
  refine V.getR (v := 13) fl_X6_28 sh_246 rfl fx_246_1 (by decide) dX6_readingsOf_1 ?_
  refine V.iload_n 1 dX6_readingsOf_4 rfl rfl ?_
  obtain ⟨r85, hc86, hF⟩ := bp_s hF
  refine V.callVi mf_X1_pagesOf ml_X6_95 sh_13 (s_X1_pagesOf (Or.inr rfl) hc86) (by decide) rfl rfl (Nat.le_of_ble_eq_true rfl) dX6_readingsOf_5 ?_
  refine V.istore_n [(2, _), (0, _), (1, _)] dX6_readingsOf_8 rfl (by decide) rfl ?_
  refine V.aload_n 1 dX6_readingsOf_9 rfl rfl ?_
  refine V.getR (v := 27) fl_X6_34 sh_246 rfl fx_246_3 (by decide) dX6_readingsOf_10 ?_
  refine V.getR (v := 30) fl_X6_83 sh_27 rfl fx_27_2 (by decide) dX6_readingsOf_13 ?_
  refine V.aload_n 1 dX6_readingsOf_16 rfl rfl ?_
  refine V.getR (v := 27) fl_X6_34 sh_246 rfl fx_246_3 (by decide) dX6_readingsOf_17 ?_
  refine V.getI fl_X6_86 sh_27 rfl km_27 dX6_readingsOf_20 ?_
  obtain ⟨r87, hc88, hF⟩ := bp_s hF
  refine V.callNi mf_X11_at ml_X6_79 (s_X11_at (Or.inl io_30) hc88) (by decide) rfl rfl (Nat.le_of_ble_eq_true rfl) dX6_readingsOf_23 ?_
  refine V.istore_n [(3, _), (2, _), (0, _), (1, _)] dX6_readingsOf_26 rfl (by decide) rfl ?_
  refine V.aload_n 2 dX6_readingsOf_27 rfl rfl ?_
  refine V.getR (v := 27) fl_X6_34 sh_246 rfl fx_246_3 (by decide) dX6_readingsOf_28 ?_
  refine V.getI fl_X6_52 sh_27 rfl km_27 dX6_readingsOf_31 ?_
  refine V.istore [(4, _), (3, _), (2, _), (0, _), (1, _)] dX6_readingsOf_34 (by decide) rfl ?_
  refine V.aload_n 3 dX6_readingsOf_36 rfl rfl ?_
  refine V.getR (v := 27) fl_X6_34 sh_246 rfl fx_246_3 (by decide) dX6_readingsOf_37 ?_
  refine V.getR (v := 28) fl_X6_45 sh_27 rfl fx_27_0 (by decide) dX6_readingsOf_40 ?_
  refine V.aload_n 3 dX6_readingsOf_43 rfl rfl ?_
  refine V.getR (v := 13) fl_X6_28 sh_246 rfl fx_246_1 (by decide) dX6_readingsOf_44 ?_
  refine V.iload_n 4 dX6_readingsOf_47 rfl rfl ?_
  obtain ⟨r89, hc90, hF⟩ := bp_s hF
  refine V.callVi mf_X1_kindOf ml_X6_76 sh_13 (s_X1_kindOf (Or.inr rfl) hc90) (by decide) rfl rfl (Nat.le_of_ble_eq_true rfl) dX6_readingsOf_48 ?_
  obtain ⟨r91, hc92, hF⟩ := bp_s hF
  refine V.callNi mf_X11_at ml_X6_79 (s_X11_at (Or.inl io_28) hc92) (by decide) rfl rfl (Nat.le_of_ble_eq_true rfl) dX6_readingsOf_51 ?_
  refine V.istore [(5, _), (4, _), (3, _), (2, _), (0, _), (1, _)] dX6_readingsOf_54 (by decide) rfl ?_
  refine V.iconst (v := 0) dX6_readingsOf_56 rfl ?_
  refine V.istore [(6, _), (5, _), (4, _), (3, _), (2, _), (0, _), (1, _)] dX6_readingsOf_57 (by decide) rfl ?_
  exact V.sub [5, 6, 4, 3, 2, 1, 0] rfl (v_X6_readingsOf_59 n _ _ _ _ _ _ _ hF)
/-! MonsterCot.lasts -/
theorem dX11_lasts_0 : decode cX11_lasts 0 = .ok (.aload_n 0, 1) := by decide +kernel
theorem dX11_lasts_1 : decode cX11_lasts 1 = .ok (.getfield 42, 3) := by decide +kernel
theorem dX11_lasts_4 : decode cX11_lasts 4 = .ok (.iload_n 1, 1) := by decide +kernel
theorem dX11_lasts_5 : decode cX11_lasts 5 = .ok (.invokevirtual 137, 3) := by decide +kernel
theorem dX11_lasts_8 : decode cX11_lasts 8 = .ok (.ifCond .eq 14, 3) := by decide +kernel
theorem dX11_lasts_11 : decode cX11_lasts 11 = .ok (.aload_n 0, 1) := by decide +kernel
theorem dX11_lasts_12 : decode cX11_lasts 12 = .ok (.getfield 84, 3) := by decide +kernel
theorem dX11_lasts_15 : decode cX11_lasts 15 = .ok (.iload_n 1, 1) := by decide +kernel
theorem dX11_lasts_16 : decode cX11_lasts 16 = .ok (.invokevirtual 346, 3) := by decide +kernel
theorem dX11_lasts_19 : decode cX11_lasts 19 = .ok (.goto 4, 3) := by decide +kernel
theorem dX11_lasts_22 : decode cX11_lasts 22 = .ok (.iconst (-1), 1) := by decide +kernel
theorem dX11_lasts_23 : decode cX11_lasts 23 = .ok (.ireturn, 1) := by decide +kernel
def X11_lasts (n : Nat) (x1 : Int32) (h : Mm) : Option (Int32 × Mm) := (bp (X1_hasBook 13 x1 h) (fun r6 => (if r6 = true then (bd (X6_readingsOf n x1 h) (fun r8 h10 => (some (r8, h10)))) else (some ((-1 : Int32), h)))))
set_option maxRecDepth 100000 in
set_option maxHeartbeats 4000000 in
theorem s_X11_lasts {X : WX} {o : Mm} {n : Nat} {x1 : Int32} {rv : Int32} {hz : Mm} {h : Mm} (hF : X11_lasts n x1 h = some (rv, hz)) : Sat X yX11_lasts cX11_lasts 2 (some .int) 6 [.ref (xa X 0), .int x1] true o h (some (.int rv)) hz := by
  unfold X11_lasts at hF
  refine Sat.mk (own := RX11) rfl (by decide +kernel) (Nat.le_of_ble_eq_true rfl) (fun G => ?_)
  refine V.sub (lv2 := [(0, _), (1, _)]) [0, 1] rfl ?_
  refine V.aload_n 0 dX11_lasts_0 rfl rfl ?_
  refine V.getR (v := 13) fl_X11_42 sh_0 rfl fx_0_4 (by decide) dX11_lasts_1 ?_
  refine V.iload_n 1 dX11_lasts_4 rfl rfl ?_
  obtain ⟨r6, hc7, hF⟩ := bp_s hF
  refine V.callVi mf_X1_hasBook ml_X11_137 sh_13 (s_X1_hasBook (Or.inr rfl) hc7) (by decide) rfl rfl (Nat.le_of_ble_eq_true rfl) dX11_lasts_5 ?_
  refine V.ifz_eq (tgt := 22) dX11_lasts_8 rfl (fun c => ?_) (fun c => ?_)
  · replace hF := iq c hF
    refine V.iconst (v := -1) dX11_lasts_22 rfl ?_
    cases hF
    exact V.iret dX11_lasts_23
  · replace hF := ip c hF
    refine V.aload_n 0 dX11_lasts_11 rfl rfl ?_
    refine V.getR (v := 246) fl_X11_84 sh_0 rfl fx_0_10 (by decide) dX11_lasts_12 ?_
    refine V.iload_n 1 dX11_lasts_15 rfl rfl ?_
    obtain ⟨r8, h10, hc9, hF⟩ := bd_s hF
    refine V.callVi mf_X6_readingsOf ml_X11_346 sh_246 (s_X6_readingsOf hc9) (by decide) rfl rfl (Nat.le_of_ble_eq_true rfl) dX11_lasts_16 ?_
    refine V.goto (tgt := 23) dX11_lasts_19 rfl ?_
    cases hF
    exact V.iret dX11_lasts_23
/-! MonsterCot$Search.nightsToQuiet -/
theorem dX6_nightsToQuiet_0 : decode cX6_nightsToQuiet 0 = .ok (.aload_n 0, 1) := by decide +kernel
theorem dX6_nightsToQuiet_1 : decode cX6_nightsToQuiet 1 = .ok (.getfield 34, 3) := by decide +kernel
theorem dX6_nightsToQuiet_4 : decode cX6_nightsToQuiet 4 = .ok (.getfield 52, 3) := by decide +kernel
theorem dX6_nightsToQuiet_7 : decode cX6_nightsToQuiet 7 = .ok (.istore_n 1, 1) := by decide +kernel
theorem dX6_nightsToQuiet_8 : decode cX6_nightsToQuiet 8 = .ok (.iconst 0, 1) := by decide +kernel
theorem dX6_nightsToQuiet_9 : decode cX6_nightsToQuiet 9 = .ok (.istore_n 2, 1) := by decide +kernel
theorem dX6_nightsToQuiet_10 : decode cX6_nightsToQuiet 10 = .ok (.iload_n 2, 1) := by decide +kernel
theorem dX6_nightsToQuiet_11 : decode cX6_nightsToQuiet 11 = .ok (.bipush 60, 2) := by decide +kernel
theorem dX6_nightsToQuiet_13 : decode cX6_nightsToQuiet 13 = .ok (.if_icmp .gt 24, 3) := by decide +kernel
theorem dX6_nightsToQuiet_16 : decode cX6_nightsToQuiet 16 = .ok (.iload_n 1, 1) := by decide +kernel
theorem dX6_nightsToQuiet_17 : decode cX6_nightsToQuiet 17 = .ok (.ifCond .ne 5, 3) := by decide +kernel
theorem dX6_nightsToQuiet_20 : decode cX6_nightsToQuiet 20 = .ok (.iload_n 2, 1) := by decide +kernel
theorem dX6_nightsToQuiet_21 : decode cX6_nightsToQuiet 21 = .ok (.ireturn, 1) := by decide +kernel
theorem dX6_nightsToQuiet_22 : decode cX6_nightsToQuiet 22 = .ok (.aload_n 0, 1) := by decide +kernel
theorem dX6_nightsToQuiet_23 : decode cX6_nightsToQuiet 23 = .ok (.getfield 18, 3) := by decide +kernel
theorem dX6_nightsToQuiet_26 : decode cX6_nightsToQuiet 26 = .ok (.iload_n 1, 1) := by decide +kernel
theorem dX6_nightsToQuiet_27 : decode cX6_nightsToQuiet 27 = .ok (.invokevirtual 156, 3) := by decide +kernel
theorem dX6_nightsToQuiet_30 : decode cX6_nightsToQuiet 30 = .ok (.istore_n 1, 1) := by decide +kernel
theorem dX6_nightsToQuiet_31 : decode cX6_nightsToQuiet 31 = .ok (.iinc 2 1, 3) := by decide +kernel
theorem dX6_nightsToQuiet_34 : decode cX6_nightsToQuiet 34 = .ok (.goto (-24), 3) := by decide +kernel
theorem dX6_nightsToQuiet_37 : decode cX6_nightsToQuiet 37 = .ok (.iconst (-1), 1) := by decide +kernel
theorem dX6_nightsToQuiet_38 : decode cX6_nightsToQuiet 38 = .ok (.ireturn, 1) := by decide +kernel
def X6_nightsToQuiet_10 (n : Nat) : Nat → Int32 → Int32 → Mm → Option Int32
  | 0, _, _, _ => none
  | f + 1, x1, x2, h => (if (60 : Int32) < x2 then (some (-1 : Int32)) else (if x1 = 0 then (some x2) else (bp (X9_calmBehindNight x1 h) (fun r5 => ((X6_nightsToQuiet_10 n f) r5 (x2 + (1)) h)))))
set_option maxRecDepth 100000 in
set_option maxHeartbeats 4000000 in
theorem v_X6_nightsToQuiet_10 {X : WX} {G : GX} {o : Mm} {n : Nat} {rv : Int32} {h : Mm} : ∀ (f : Nat) (x1 : Int32) (x2 : Int32), X6_nightsToQuiet_10 n f x1 x2 h = some rv → V X G RX6 cX6_nightsToQuiet 3 (some .int) 5 0 0 (QR X G true o (some (.int rv)) h) true o 10 [(0, .ref (xa X 246)), (1, .int x1), (2, .int x2)] [] h := by
  intro f
  induction f with
  | zero => intro x1 x2 hF; exact nomatch (show (none : Option Int32) = some rv from hF)
  | succ f ih =>
    intro x1 x2 hF
    unfold X6_nightsToQuiet_10 at hF
    refine V.iload_n 2 dX6_nightsToQuiet_10 rfl rfl ?_
    refine V.bipush (v := 60) dX6_nightsToQuiet_11 (by decide) ?_
    refine V.icmp_gt (tgt := 37) dX6_nightsToQuiet_13 rfl (fun c => ?_) (fun c => ?_)
    · replace hF := ip c hF
      refine V.iconst (v := -1) dX6_nightsToQuiet_37 rfl ?_
      cases hF
      exact V.iret dX6_nightsToQuiet_38
    · replace hF := iq c hF
      refine V.iload_n 1 dX6_nightsToQuiet_16 rfl rfl ?_
      refine V.if_ne (tgt := 22) dX6_nightsToQuiet_17 rfl (fun c => ?_) (fun c => ?_)
      · replace hF := iq c hF
        refine V.aload_n 0 dX6_nightsToQuiet_22 rfl rfl ?_
        refine V.getR (v := 26) fl_X6_18 sh_246 rfl fx_246_0 (by decide) dX6_nightsToQuiet_23 ?_
        refine V.iload_n 1 dX6_nightsToQuiet_26 rfl rfl ?_
        obtain ⟨r5, hc6, hF⟩ := bp_s hF
        refine V.callVi mf_X9_calmBehindNight ml_X6_156 sh_26 (s_X9_calmBehindNight hc6) (by decide) rfl rfl (Nat.le_of_ble_eq_true rfl) dX6_nightsToQuiet_27 ?_
        refine V.istore_n [(1, _), (0, _), (2, _)] dX6_nightsToQuiet_30 rfl (by decide) rfl ?_
        refine V.iinc (v := (x2 + (1))) 2 [(2, _), (1, _), (0, _)] dX6_nightsToQuiet_31 rfl rfl (by decide) rfl ?_
        refine V.goto (tgt := 10) dX6_nightsToQuiet_34 rfl ?_
        exact V.sub [2, 1, 0] rfl (ih _ _ hF)
      · replace hF := ip c hF
        refine V.iload_n 2 dX6_nightsToQuiet_20 rfl rfl ?_
        cases hF
        exact V.iret dX6_nightsToQuiet_21
def X6_nightsToQuiet (n : Nat) (h : Mm) : Option Int32 := (X6_nightsToQuiet_10 n n (h.1 27 4) (0 : Int32) h)
set_option maxRecDepth 100000 in
set_option maxHeartbeats 4000000 in
theorem s_X6_nightsToQuiet {X : WX} {o : Mm} {n : Nat} {rv : Int32} {h : Mm} (hF : X6_nightsToQuiet n h = some rv) : Sat X yX6_nightsToQuiet cX6_nightsToQuiet 3 (some .int) 5 [.ref (xa X 246)] true o h (some (.int rv)) h := by
  unfold X6_nightsToQuiet at hF
  refine Sat.mk (own := RX6) rfl (by decide +kernel) (Nat.le_of_ble_eq_true rfl) (fun G => ?_)
  refine V.sub (lv2 := [(0, _)]) [0] rfl ?_
  refine V.aload_n 0 dX6_nightsToQuiet_0 rfl rfl ?_
  refine V.getR (v := 27) fl_X6_34 sh_246 rfl fx_246_3 (by decide) dX6_nightsToQuiet_1 ?_
  refine V.getI fl_X6_52 sh_27 rfl km_27 dX6_nightsToQuiet_4 ?_
  refine V.istore_n [(1, _), (0, _)] dX6_nightsToQuiet_7 rfl (by decide) rfl ?_
  refine V.iconst (v := 0) dX6_nightsToQuiet_8 rfl ?_
  refine V.istore_n [(2, _), (1, _), (0, _)] dX6_nightsToQuiet_9 rfl (by decide) rfl ?_
  exact V.sub [2, 1, 0] rfl (v_X6_nightsToQuiet_10 n _ _ hF)
/-! MonsterCot.quiet -/
theorem dX11_quiet_0 : decode cX11_quiet 0 = .ok (.aload_n 0, 1) := by decide +kernel
theorem dX11_quiet_1 : decode cX11_quiet 1 = .ok (.getfield 42, 3) := by decide +kernel
theorem dX11_quiet_4 : decode cX11_quiet 4 = .ok (.invokevirtual 124, 3) := by decide +kernel
theorem dX11_quiet_7 : decode cX11_quiet 7 = .ok (.ifCond .eq 13, 3) := by decide +kernel
theorem dX11_quiet_10 : decode cX11_quiet 10 = .ok (.aload_n 0, 1) := by decide +kernel
theorem dX11_quiet_11 : decode cX11_quiet 11 = .ok (.getfield 84, 3) := by decide +kernel
theorem dX11_quiet_14 : decode cX11_quiet 14 = .ok (.invokevirtual 349, 3) := by decide +kernel
theorem dX11_quiet_17 : decode cX11_quiet 17 = .ok (.goto 4, 3) := by decide +kernel
theorem dX11_quiet_20 : decode cX11_quiet 20 = .ok (.iconst (-1), 1) := by decide +kernel
theorem dX11_quiet_21 : decode cX11_quiet 21 = .ok (.ireturn, 1) := by decide +kernel
def X11_quiet (n : Nat) (h : Mm) : Option Int32 := (bp (X1_stands 13 h) (fun r5 => (if r5 = true then (bp (X6_nightsToQuiet n h) (fun r7 => (some r7))) else (some (-1 : Int32)))))
set_option maxRecDepth 100000 in
set_option maxHeartbeats 4000000 in
theorem s_X11_quiet {X : WX} {o : Mm} {n : Nat} {rv : Int32} {h : Mm} (hF : X11_quiet n h = some rv) : Sat X yX11_quiet cX11_quiet 1 (some .int) 6 [.ref (xa X 0)] true o h (some (.int rv)) h := by
  unfold X11_quiet at hF
  refine Sat.mk (own := RX11) rfl (by decide +kernel) (Nat.le_of_ble_eq_true rfl) (fun G => ?_)
  refine V.sub (lv2 := [(0, _)]) [0] rfl ?_
  refine V.aload_n 0 dX11_quiet_0 rfl rfl ?_
  refine V.getR (v := 13) fl_X11_42 sh_0 rfl fx_0_4 (by decide) dX11_quiet_1 ?_
  obtain ⟨r5, hc6, hF⟩ := bp_s hF
  refine V.callVi mf_X1_stands ml_X11_124 sh_13 (s_X1_stands (Or.inr rfl) hc6) (by decide) rfl rfl (Nat.le_of_ble_eq_true rfl) dX11_quiet_4 ?_
  refine V.ifz_eq (tgt := 20) dX11_quiet_7 rfl (fun c => ?_) (fun c => ?_)
  · replace hF := iq c hF
    refine V.iconst (v := -1) dX11_quiet_20 rfl ?_
    cases hF
    exact V.iret dX11_quiet_21
  · replace hF := ip c hF
    refine V.aload_n 0 dX11_quiet_10 rfl rfl ?_
    refine V.getR (v := 246) fl_X11_84 sh_0 rfl fx_0_10 (by decide) dX11_quiet_11 ?_
    obtain ⟨r7, hc8, hF⟩ := bp_s hF
    refine V.callVi mf_X6_nightsToQuiet ml_X11_349 sh_246 (s_X6_nightsToQuiet hc8) (by decide) rfl rfl (Nat.le_of_ble_eq_true rfl) dX11_quiet_14 ?_
    refine V.goto (tgt := 21) dX11_quiet_17 rfl ?_
    cases hF
    exact V.iret dX11_quiet_21
/-! MonsterCot$Search.fairest -/
theorem dX6_fairest_0 : decode cX6_fairest 0 = .ok (.iconst 0, 1) := by decide +kernel
theorem dX6_fairest_1 : decode cX6_fairest 1 = .ok (.istore_n 1, 1) := by decide +kernel
theorem dX6_fairest_2 : decode cX6_fairest 2 = .ok (.iconst 1, 1) := by decide +kernel
theorem dX6_fairest_3 : decode cX6_fairest 3 = .ok (.istore_n 2, 1) := by decide +kernel
theorem dX6_fairest_4 : decode cX6_fairest 4 = .ok (.iload_n 2, 1) := by decide +kernel
theorem dX6_fairest_5 : decode cX6_fairest 5 = .ok (.aload_n 0, 1) := by decide +kernel
theorem dX6_fairest_6 : decode cX6_fairest 6 = .ok (.getfield 28, 3) := by decide +kernel
theorem dX6_fairest_9 : decode cX6_fairest 9 = .ok (.invokevirtual 136, 3) := by decide +kernel
theorem dX6_fairest_12 : decode cX6_fairest 12 = .ok (.if_icmp .ge 40, 3) := by decide +kernel
theorem dX6_fairest_15 : decode cX6_fairest 15 = .ok (.aload_n 0, 1) := by decide +kernel
theorem dX6_fairest_16 : decode cX6_fairest 16 = .ok (.getfield 34, 3) := by decide +kernel
theorem dX6_fairest_19 : decode cX6_fairest 19 = .ok (.getfield 179, 3) := by decide +kernel
theorem dX6_fairest_22 : decode cX6_fairest 22 = .ok (.iload_n 2, 1) := by decide +kernel
theorem dX6_fairest_23 : decode cX6_fairest 23 = .ok (.invokestatic 79, 3) := by decide +kernel
theorem dX6_fairest_26 : decode cX6_fairest 26 = .ok (.aload_n 0, 1) := by decide +kernel
theorem dX6_fairest_27 : decode cX6_fairest 27 = .ok (.getfield 34, 3) := by decide +kernel
theorem dX6_fairest_30 : decode cX6_fairest 30 = .ok (.getfield 179, 3) := by decide +kernel
theorem dX6_fairest_33 : decode cX6_fairest 33 = .ok (.iload_n 1, 1) := by decide +kernel
theorem dX6_fairest_34 : decode cX6_fairest 34 = .ok (.invokestatic 79, 3) := by decide +kernel
theorem dX6_fairest_37 : decode cX6_fairest 37 = .ok (.if_icmp .ge 7, 3) := by decide +kernel
theorem dX6_fairest_40 : decode cX6_fairest 40 = .ok (.iload_n 2, 1) := by decide +kernel
theorem dX6_fairest_41 : decode cX6_fairest 41 = .ok (.goto 4, 3) := by decide +kernel
theorem dX6_fairest_44 : decode cX6_fairest 44 = .ok (.iload_n 1, 1) := by decide +kernel
theorem dX6_fairest_45 : decode cX6_fairest 45 = .ok (.istore_n 1, 1) := by decide +kernel
theorem dX6_fairest_46 : decode cX6_fairest 46 = .ok (.iinc 2 1, 3) := by decide +kernel
theorem dX6_fairest_49 : decode cX6_fairest 49 = .ok (.goto (-45), 3) := by decide +kernel
theorem dX6_fairest_52 : decode cX6_fairest 52 = .ok (.iload_n 1, 1) := by decide +kernel
theorem dX6_fairest_53 : decode cX6_fairest 53 = .ok (.ireturn, 1) := by decide +kernel
def X6_fairest_45 (n : Nat) (K4 : Int32 → Int32 → Mm → Option Int32) (x2 : Int32) (s0 : Int32) (h : Mm) : Option Int32 := (K4 s0 (x2 + (1)) h)
set_option maxRecDepth 100000 in
set_option maxHeartbeats 4000000 in
theorem v_X6_fairest_45 {X : WX} {G : GX} {o : Mm} {n : Nat} {K4 : Int32 → Int32 → Mm → Option Int32} {rv : Int32} {h : Mm} (hK4 : ∀ (x1 : Int32) (x2 : Int32), K4 x1 x2 h = some rv → V X G RX6 cX6_fairest 3 (some .int) 3 0 0 (QR X G true o (some (.int rv)) h) true o 4 [(0, .ref (xa X 246)), (1, .int x1), (2, .int x2)] [] h) {x2 : Int32} {s0 : Int32} (hF : X6_fairest_45 n K4 x2 s0 h = some rv) : V X G RX6 cX6_fairest 3 (some .int) 3 0 0 (QR X G true o (some (.int rv)) h) true o 45 [(0, .ref (xa X 246)), (2, .int x2)] [.int s0] h := by
  unfold X6_fairest_45 at hF
  refine V.istore_n [(1, _), (0, _), (2, _)] dX6_fairest_45 rfl (by decide) rfl ?_
  refine V.iinc (v := (x2 + (1))) 2 [(2, _), (1, _), (0, _)] dX6_fairest_46 rfl rfl (by decide) rfl ?_
  refine V.goto (tgt := 4) dX6_fairest_49 rfl ?_
  exact V.sub [2, 1, 0] rfl (hK4 _ _ hF)
def X6_fairest_4 (n : Nat) : Nat → Int32 → Int32 → Mm → Option Int32
  | 0, _, _, _ => none
  | f + 1, x1, x2, h => (bp (X1_houses 13 h) (fun r25 => (if r25 ≤ x2 then (some x1) else (bp (X11_at 31 x2 h) (fun r27 => (bp (X11_at 31 x1 h) (fun r29 => (if r29 ≤ r27 then (X6_fairest_45 n (X6_fairest_4 n f) x2 x1 h) else (X6_fairest_45 n (X6_fairest_4 n f) x2 x2 h)))))))))
set_option maxRecDepth 100000 in
set_option maxHeartbeats 4000000 in
theorem v_X6_fairest_4 {X : WX} {G : GX} {o : Mm} {n : Nat} {rv : Int32} {h : Mm} : ∀ (f : Nat) (x1 : Int32) (x2 : Int32), X6_fairest_4 n f x1 x2 h = some rv → V X G RX6 cX6_fairest 3 (some .int) 3 0 0 (QR X G true o (some (.int rv)) h) true o 4 [(0, .ref (xa X 246)), (1, .int x1), (2, .int x2)] [] h := by
  intro f
  induction f with
  | zero => intro x1 x2 hF; exact nomatch (show (none : Option Int32) = some rv from hF)
  | succ f ih =>
    intro x1 x2 hF
    unfold X6_fairest_4 at hF
    refine V.iload_n 2 dX6_fairest_4 rfl rfl ?_
    refine V.aload_n 0 dX6_fairest_5 rfl rfl ?_
    refine V.getR (v := 13) fl_X6_28 sh_246 rfl fx_246_1 (by decide) dX6_fairest_6 ?_
    obtain ⟨r25, hc26, hF⟩ := bp_s hF
    refine V.callVi mf_X1_houses ml_X6_136 sh_13 (s_X1_houses (Or.inr rfl) hc26) (by decide) rfl rfl (Nat.le_of_ble_eq_true rfl) dX6_fairest_9 ?_
    refine V.icmp_ge (tgt := 52) dX6_fairest_12 rfl (fun c => ?_) (fun c => ?_)
    · replace hF := ip c hF
      refine V.iload_n 1 dX6_fairest_52 rfl rfl ?_
      cases hF
      exact V.iret dX6_fairest_53
    · replace hF := iq c hF
      refine V.aload_n 0 dX6_fairest_15 rfl rfl ?_
      refine V.getR (v := 27) fl_X6_34 sh_246 rfl fx_246_3 (by decide) dX6_fairest_16 ?_
      refine V.getR (v := 31) fl_X6_179 sh_27 rfl fx_27_3 (by decide) dX6_fairest_19 ?_
      refine V.iload_n 2 dX6_fairest_22 rfl rfl ?_
      obtain ⟨r27, hc28, hF⟩ := bp_s hF
      refine V.callNi mf_X11_at ml_X6_79 (s_X11_at (Or.inl io_31) hc28) (by decide) rfl rfl (Nat.le_of_ble_eq_true rfl) dX6_fairest_23 ?_
      refine V.aload_n 0 dX6_fairest_26 rfl rfl ?_
      refine V.getR (v := 27) fl_X6_34 sh_246 rfl fx_246_3 (by decide) dX6_fairest_27 ?_
      refine V.getR (v := 31) fl_X6_179 sh_27 rfl fx_27_3 (by decide) dX6_fairest_30 ?_
      refine V.iload_n 1 dX6_fairest_33 rfl rfl ?_
      obtain ⟨r29, hc30, hF⟩ := bp_s hF
      refine V.callNi mf_X11_at ml_X6_79 (s_X11_at (Or.inl io_31) hc30) (by decide) rfl rfl (Nat.le_of_ble_eq_true rfl) dX6_fairest_34 ?_
      refine V.icmp_ge (tgt := 44) dX6_fairest_37 rfl (fun c => ?_) (fun c => ?_)
      · replace hF := ip c hF
        refine V.iload_n 1 dX6_fairest_44 rfl rfl ?_
        exact V.sub [0, 2] rfl (v_X6_fairest_45 ih hF)
      · replace hF := iq c hF
        refine V.iload_n 2 dX6_fairest_40 rfl rfl ?_
        refine V.goto (tgt := 45) dX6_fairest_41 rfl ?_
        exact V.sub [0, 2] rfl (v_X6_fairest_45 ih hF)
def X6_fairest (n : Nat) (h : Mm) : Option Int32 := (X6_fairest_4 n n (0 : Int32) (1 : Int32) h)
set_option maxRecDepth 100000 in
set_option maxHeartbeats 4000000 in
theorem s_X6_fairest {X : WX} {o : Mm} {n : Nat} {rv : Int32} {h : Mm} (hF : X6_fairest n h = some rv) : Sat X yX6_fairest cX6_fairest 3 (some .int) 3 [.ref (xa X 246)] true o h (some (.int rv)) h := by
  unfold X6_fairest at hF
  refine Sat.mk (own := RX6) rfl (by decide +kernel) (Nat.le_of_ble_eq_true rfl) (fun G => ?_)
  refine V.sub (lv2 := [(0, _)]) [0] rfl ?_
  refine V.iconst (v := 0) dX6_fairest_0 rfl ?_
  refine V.istore_n [(1, _), (0, _)] dX6_fairest_1 rfl (by decide) rfl ?_
  refine V.iconst (v := 1) dX6_fairest_2 rfl ?_
  refine V.istore_n [(2, _), (1, _), (0, _)] dX6_fairest_3 rfl (by decide) rfl ?_
  exact V.sub [2, 1, 0] rfl (v_X6_fairest_4 n _ _ hF)
/-! MonsterCot$Search.strongest -/
theorem dX6_strongest_0 : decode cX6_strongest 0 = .ok (.iconst 0, 1) := by decide +kernel
theorem dX6_strongest_1 : decode cX6_strongest 1 = .ok (.istore_n 1, 1) := by decide +kernel
theorem dX6_strongest_2 : decode cX6_strongest 2 = .ok (.iconst 1, 1) := by decide +kernel
theorem dX6_strongest_3 : decode cX6_strongest 3 = .ok (.istore_n 2, 1) := by decide +kernel
theorem dX6_strongest_4 : decode cX6_strongest 4 = .ok (.iload_n 2, 1) := by decide +kernel
theorem dX6_strongest_5 : decode cX6_strongest 5 = .ok (.aload_n 0, 1) := by decide +kernel
theorem dX6_strongest_6 : decode cX6_strongest 6 = .ok (.getfield 28, 3) := by decide +kernel
theorem dX6_strongest_9 : decode cX6_strongest 9 = .ok (.invokevirtual 136, 3) := by decide +kernel
theorem dX6_strongest_12 : decode cX6_strongest 12 = .ok (.if_icmp .ge 42, 3) := by decide +kernel
theorem dX6_strongest_15 : decode cX6_strongest 15 = .ok (.aload_n 0, 1) := by decide +kernel
theorem dX6_strongest_16 : decode cX6_strongest 16 = .ok (.getfield 18, 3) := by decide +kernel
theorem dX6_strongest_19 : decode cX6_strongest 19 = .ok (.aload_n 0, 1) := by decide +kernel
theorem dX6_strongest_20 : decode cX6_strongest 20 = .ok (.getfield 34, 3) := by decide +kernel
theorem dX6_strongest_23 : decode cX6_strongest 23 = .ok (.iload_n 2, 1) := by decide +kernel
theorem dX6_strongest_24 : decode cX6_strongest 24 = .ok (.invokevirtual 182, 3) := by decide +kernel
theorem dX6_strongest_27 : decode cX6_strongest 27 = .ok (.aload_n 0, 1) := by decide +kernel
theorem dX6_strongest_28 : decode cX6_strongest 28 = .ok (.getfield 18, 3) := by decide +kernel
theorem dX6_strongest_31 : decode cX6_strongest 31 = .ok (.aload_n 0, 1) := by decide +kernel
theorem dX6_strongest_32 : decode cX6_strongest 32 = .ok (.getfield 34, 3) := by decide +kernel
theorem dX6_strongest_35 : decode cX6_strongest 35 = .ok (.iload_n 1, 1) := by decide +kernel
theorem dX6_strongest_36 : decode cX6_strongest 36 = .ok (.invokevirtual 182, 3) := by decide +kernel
theorem dX6_strongest_39 : decode cX6_strongest 39 = .ok (.if_icmp .le 7, 3) := by decide +kernel
theorem dX6_strongest_42 : decode cX6_strongest 42 = .ok (.iload_n 2, 1) := by decide +kernel
theorem dX6_strongest_43 : decode cX6_strongest 43 = .ok (.goto 4, 3) := by decide +kernel
theorem dX6_strongest_46 : decode cX6_strongest 46 = .ok (.iload_n 1, 1) := by decide +kernel
theorem dX6_strongest_47 : decode cX6_strongest 47 = .ok (.istore_n 1, 1) := by decide +kernel
theorem dX6_strongest_48 : decode cX6_strongest 48 = .ok (.iinc 2 1, 3) := by decide +kernel
theorem dX6_strongest_51 : decode cX6_strongest 51 = .ok (.goto (-47), 3) := by decide +kernel
theorem dX6_strongest_54 : decode cX6_strongest 54 = .ok (.iload_n 1, 1) := by decide +kernel
theorem dX6_strongest_55 : decode cX6_strongest 55 = .ok (.ireturn, 1) := by decide +kernel
def X6_strongest_47 (n : Nat) (K4 : Int32 → Int32 → Mm → Option Int32) (x2 : Int32) (s0 : Int32) (h : Mm) : Option Int32 := (K4 s0 (x2 + (1)) h)
set_option maxRecDepth 100000 in
set_option maxHeartbeats 4000000 in
theorem v_X6_strongest_47 {X : WX} {G : GX} {o : Mm} {n : Nat} {K4 : Int32 → Int32 → Mm → Option Int32} {rv : Int32} {h : Mm} (hK4 : ∀ (x1 : Int32) (x2 : Int32), K4 x1 x2 h = some rv → V X G RX6 cX6_strongest 3 (some .int) 5 0 0 (QR X G true o (some (.int rv)) h) true o 4 [(0, .ref (xa X 246)), (1, .int x1), (2, .int x2)] [] h) {x2 : Int32} {s0 : Int32} (hF : X6_strongest_47 n K4 x2 s0 h = some rv) : V X G RX6 cX6_strongest 3 (some .int) 5 0 0 (QR X G true o (some (.int rv)) h) true o 47 [(0, .ref (xa X 246)), (2, .int x2)] [.int s0] h := by
  unfold X6_strongest_47 at hF
  refine V.istore_n [(1, _), (0, _), (2, _)] dX6_strongest_47 rfl (by decide) rfl ?_
  refine V.iinc (v := (x2 + (1))) 2 [(2, _), (1, _), (0, _)] dX6_strongest_48 rfl rfl (by decide) rfl ?_
  refine V.goto (tgt := 4) dX6_strongest_51 rfl ?_
  exact V.sub [2, 1, 0] rfl (hK4 _ _ hF)
def X6_strongest_4 (n : Nat) : Nat → Int32 → Int32 → Mm → Option Int32
  | 0, _, _, _ => none
  | f + 1, x1, x2, h => (bp (X1_houses 13 h) (fun r25 => (if r25 ≤ x2 then (some x1) else (bp (X9_leftOf 27 x2 h) (fun r27 => (bp (X9_leftOf 27 x1 h) (fun r29 => (if r27 ≤ r29 then (X6_strongest_47 n (X6_strongest_4 n f) x2 x1 h) else (X6_strongest_47 n (X6_strongest_4 n f) x2 x2 h)))))))))
set_option maxRecDepth 100000 in
set_option maxHeartbeats 4000000 in
theorem v_X6_strongest_4 {X : WX} {G : GX} {o : Mm} {n : Nat} {rv : Int32} {h : Mm} : ∀ (f : Nat) (x1 : Int32) (x2 : Int32), X6_strongest_4 n f x1 x2 h = some rv → V X G RX6 cX6_strongest 3 (some .int) 5 0 0 (QR X G true o (some (.int rv)) h) true o 4 [(0, .ref (xa X 246)), (1, .int x1), (2, .int x2)] [] h := by
  intro f
  induction f with
  | zero => intro x1 x2 hF; exact nomatch (show (none : Option Int32) = some rv from hF)
  | succ f ih =>
    intro x1 x2 hF
    unfold X6_strongest_4 at hF
    refine V.iload_n 2 dX6_strongest_4 rfl rfl ?_
    refine V.aload_n 0 dX6_strongest_5 rfl rfl ?_
    refine V.getR (v := 13) fl_X6_28 sh_246 rfl fx_246_1 (by decide) dX6_strongest_6 ?_
    obtain ⟨r25, hc26, hF⟩ := bp_s hF
    refine V.callVi mf_X1_houses ml_X6_136 sh_13 (s_X1_houses (Or.inr rfl) hc26) (by decide) rfl rfl (Nat.le_of_ble_eq_true rfl) dX6_strongest_9 ?_
    refine V.icmp_ge (tgt := 54) dX6_strongest_12 rfl (fun c => ?_) (fun c => ?_)
    · replace hF := ip c hF
      refine V.iload_n 1 dX6_strongest_54 rfl rfl ?_
      cases hF
      exact V.iret dX6_strongest_55
    · replace hF := iq c hF
      refine V.aload_n 0 dX6_strongest_15 rfl rfl ?_
      refine V.getR (v := 26) fl_X6_18 sh_246 rfl fx_246_0 (by decide) dX6_strongest_16 ?_
      refine V.aload_n 0 dX6_strongest_19 rfl rfl ?_
      refine V.getR (v := 27) fl_X6_34 sh_246 rfl fx_246_3 (by decide) dX6_strongest_20 ?_
      refine V.iload_n 2 dX6_strongest_23 rfl rfl ?_
      obtain ⟨r27, hc28, hF⟩ := bp_s hF
      refine V.callVi mf_X9_leftOf ml_X6_182 sh_26 (s_X9_leftOf isb_27 hc28) (by decide) rfl rfl (Nat.le_of_ble_eq_true rfl) dX6_strongest_24 ?_
      refine V.aload_n 0 dX6_strongest_27 rfl rfl ?_
      refine V.getR (v := 26) fl_X6_18 sh_246 rfl fx_246_0 (by decide) dX6_strongest_28 ?_
      refine V.aload_n 0 dX6_strongest_31 rfl rfl ?_
      refine V.getR (v := 27) fl_X6_34 sh_246 rfl fx_246_3 (by decide) dX6_strongest_32 ?_
      refine V.iload_n 1 dX6_strongest_35 rfl rfl ?_
      obtain ⟨r29, hc30, hF⟩ := bp_s hF
      refine V.callVi mf_X9_leftOf ml_X6_182 sh_26 (s_X9_leftOf isb_27 hc30) (by decide) rfl rfl (Nat.le_of_ble_eq_true rfl) dX6_strongest_36 ?_
      refine V.icmp_le (tgt := 46) dX6_strongest_39 rfl (fun c => ?_) (fun c => ?_)
      · replace hF := ip c hF
        refine V.iload_n 1 dX6_strongest_46 rfl rfl ?_
        exact V.sub [0, 2] rfl (v_X6_strongest_47 ih hF)
      · replace hF := iq c hF
        refine V.iload_n 2 dX6_strongest_42 rfl rfl ?_
        refine V.goto (tgt := 47) dX6_strongest_43 rfl ?_
        exact V.sub [0, 2] rfl (v_X6_strongest_47 ih hF)
def X6_strongest (n : Nat) (h : Mm) : Option Int32 := (X6_strongest_4 n n (0 : Int32) (1 : Int32) h)
set_option maxRecDepth 100000 in
set_option maxHeartbeats 4000000 in
theorem s_X6_strongest {X : WX} {o : Mm} {n : Nat} {rv : Int32} {h : Mm} (hF : X6_strongest n h = some rv) : Sat X yX6_strongest cX6_strongest 3 (some .int) 5 [.ref (xa X 246)] true o h (some (.int rv)) h := by
  unfold X6_strongest at hF
  refine Sat.mk (own := RX6) rfl (by decide +kernel) (Nat.le_of_ble_eq_true rfl) (fun G => ?_)
  refine V.sub (lv2 := [(0, _)]) [0] rfl ?_
  refine V.iconst (v := 0) dX6_strongest_0 rfl ?_
  refine V.istore_n [(1, _), (0, _)] dX6_strongest_1 rfl (by decide) rfl ?_
  refine V.iconst (v := 1) dX6_strongest_2 rfl ?_
  refine V.istore_n [(2, _), (1, _), (0, _)] dX6_strongest_3 rfl (by decide) rfl ?_
  exact V.sub [2, 1, 0] rfl (v_X6_strongest_4 n _ _ hF)
/-! MonsterCot$Search.loudest -/
theorem dX6_loudest_0 : decode cX6_loudest 0 = .ok (.iconst 0, 1) := by decide +kernel
theorem dX6_loudest_1 : decode cX6_loudest 1 = .ok (.istore_n 1, 1) := by decide +kernel
theorem dX6_loudest_2 : decode cX6_loudest 2 = .ok (.iconst 1, 1) := by decide +kernel
theorem dX6_loudest_3 : decode cX6_loudest 3 = .ok (.istore_n 2, 1) := by decide +kernel
theorem dX6_loudest_4 : decode cX6_loudest 4 = .ok (.iload_n 2, 1) := by decide +kernel
theorem dX6_loudest_5 : decode cX6_loudest 5 = .ok (.aload_n 0, 1) := by decide +kernel
theorem dX6_loudest_6 : decode cX6_loudest 6 = .ok (.getfield 28, 3) := by decide +kernel
theorem dX6_loudest_9 : decode cX6_loudest 9 = .ok (.invokevirtual 136, 3) := by decide +kernel
theorem dX6_loudest_12 : decode cX6_loudest 12 = .ok (.if_icmp .ge 40, 3) := by decide +kernel
theorem dX6_loudest_15 : decode cX6_loudest 15 = .ok (.aload_n 0, 1) := by decide +kernel
theorem dX6_loudest_16 : decode cX6_loudest 16 = .ok (.getfield 34, 3) := by decide +kernel
theorem dX6_loudest_19 : decode cX6_loudest 19 = .ok (.getfield 83, 3) := by decide +kernel
theorem dX6_loudest_22 : decode cX6_loudest 22 = .ok (.iload_n 2, 1) := by decide +kernel
theorem dX6_loudest_23 : decode cX6_loudest 23 = .ok (.invokestatic 79, 3) := by decide +kernel
theorem dX6_loudest_26 : decode cX6_loudest 26 = .ok (.aload_n 0, 1) := by decide +kernel
theorem dX6_loudest_27 : decode cX6_loudest 27 = .ok (.getfield 34, 3) := by decide +kernel
theorem dX6_loudest_30 : decode cX6_loudest 30 = .ok (.getfield 83, 3) := by decide +kernel
theorem dX6_loudest_33 : decode cX6_loudest 33 = .ok (.iload_n 1, 1) := by decide +kernel
theorem dX6_loudest_34 : decode cX6_loudest 34 = .ok (.invokestatic 79, 3) := by decide +kernel
theorem dX6_loudest_37 : decode cX6_loudest 37 = .ok (.if_icmp .le 7, 3) := by decide +kernel
theorem dX6_loudest_40 : decode cX6_loudest 40 = .ok (.iload_n 2, 1) := by decide +kernel
theorem dX6_loudest_41 : decode cX6_loudest 41 = .ok (.goto 4, 3) := by decide +kernel
theorem dX6_loudest_44 : decode cX6_loudest 44 = .ok (.iload_n 1, 1) := by decide +kernel
theorem dX6_loudest_45 : decode cX6_loudest 45 = .ok (.istore_n 1, 1) := by decide +kernel
theorem dX6_loudest_46 : decode cX6_loudest 46 = .ok (.iinc 2 1, 3) := by decide +kernel
theorem dX6_loudest_49 : decode cX6_loudest 49 = .ok (.goto (-45), 3) := by decide +kernel
theorem dX6_loudest_52 : decode cX6_loudest 52 = .ok (.iload_n 1, 1) := by decide +kernel
theorem dX6_loudest_53 : decode cX6_loudest 53 = .ok (.ireturn, 1) := by decide +kernel
def X6_loudest_45 (n : Nat) (K4 : Int32 → Int32 → Mm → Option Int32) (x2 : Int32) (s0 : Int32) (h : Mm) : Option Int32 := (K4 s0 (x2 + (1)) h)
set_option maxRecDepth 100000 in
set_option maxHeartbeats 4000000 in
theorem v_X6_loudest_45 {X : WX} {G : GX} {o : Mm} {n : Nat} {K4 : Int32 → Int32 → Mm → Option Int32} {rv : Int32} {h : Mm} (hK4 : ∀ (x1 : Int32) (x2 : Int32), K4 x1 x2 h = some rv → V X G RX6 cX6_loudest 3 (some .int) 3 0 0 (QR X G true o (some (.int rv)) h) true o 4 [(0, .ref (xa X 246)), (1, .int x1), (2, .int x2)] [] h) {x2 : Int32} {s0 : Int32} (hF : X6_loudest_45 n K4 x2 s0 h = some rv) : V X G RX6 cX6_loudest 3 (some .int) 3 0 0 (QR X G true o (some (.int rv)) h) true o 45 [(0, .ref (xa X 246)), (2, .int x2)] [.int s0] h := by
  unfold X6_loudest_45 at hF
  refine V.istore_n [(1, _), (0, _), (2, _)] dX6_loudest_45 rfl (by decide) rfl ?_
  refine V.iinc (v := (x2 + (1))) 2 [(2, _), (1, _), (0, _)] dX6_loudest_46 rfl rfl (by decide) rfl ?_
  refine V.goto (tgt := 4) dX6_loudest_49 rfl ?_
  exact V.sub [2, 1, 0] rfl (hK4 _ _ hF)
def X6_loudest_4 (n : Nat) : Nat → Int32 → Int32 → Mm → Option Int32
  | 0, _, _, _ => none
  | f + 1, x1, x2, h => (bp (X1_houses 13 h) (fun r25 => (if r25 ≤ x2 then (some x1) else (bp (X11_at 30 x2 h) (fun r27 => (bp (X11_at 30 x1 h) (fun r29 => (if r27 ≤ r29 then (X6_loudest_45 n (X6_loudest_4 n f) x2 x1 h) else (X6_loudest_45 n (X6_loudest_4 n f) x2 x2 h)))))))))
set_option maxRecDepth 100000 in
set_option maxHeartbeats 4000000 in
theorem v_X6_loudest_4 {X : WX} {G : GX} {o : Mm} {n : Nat} {rv : Int32} {h : Mm} : ∀ (f : Nat) (x1 : Int32) (x2 : Int32), X6_loudest_4 n f x1 x2 h = some rv → V X G RX6 cX6_loudest 3 (some .int) 3 0 0 (QR X G true o (some (.int rv)) h) true o 4 [(0, .ref (xa X 246)), (1, .int x1), (2, .int x2)] [] h := by
  intro f
  induction f with
  | zero => intro x1 x2 hF; exact nomatch (show (none : Option Int32) = some rv from hF)
  | succ f ih =>
    intro x1 x2 hF
    unfold X6_loudest_4 at hF
    refine V.iload_n 2 dX6_loudest_4 rfl rfl ?_
    refine V.aload_n 0 dX6_loudest_5 rfl rfl ?_
    refine V.getR (v := 13) fl_X6_28 sh_246 rfl fx_246_1 (by decide) dX6_loudest_6 ?_
    obtain ⟨r25, hc26, hF⟩ := bp_s hF
    refine V.callVi mf_X1_houses ml_X6_136 sh_13 (s_X1_houses (Or.inr rfl) hc26) (by decide) rfl rfl (Nat.le_of_ble_eq_true rfl) dX6_loudest_9 ?_
    refine V.icmp_ge (tgt := 52) dX6_loudest_12 rfl (fun c => ?_) (fun c => ?_)
    · replace hF := ip c hF
      refine V.iload_n 1 dX6_loudest_52 rfl rfl ?_
      cases hF
      exact V.iret dX6_loudest_53
    · replace hF := iq c hF
      refine V.aload_n 0 dX6_loudest_15 rfl rfl ?_
      refine V.getR (v := 27) fl_X6_34 sh_246 rfl fx_246_3 (by decide) dX6_loudest_16 ?_
      refine V.getR (v := 30) fl_X6_83 sh_27 rfl fx_27_2 (by decide) dX6_loudest_19 ?_
      refine V.iload_n 2 dX6_loudest_22 rfl rfl ?_
      obtain ⟨r27, hc28, hF⟩ := bp_s hF
      refine V.callNi mf_X11_at ml_X6_79 (s_X11_at (Or.inl io_30) hc28) (by decide) rfl rfl (Nat.le_of_ble_eq_true rfl) dX6_loudest_23 ?_
      refine V.aload_n 0 dX6_loudest_26 rfl rfl ?_
      refine V.getR (v := 27) fl_X6_34 sh_246 rfl fx_246_3 (by decide) dX6_loudest_27 ?_
      refine V.getR (v := 30) fl_X6_83 sh_27 rfl fx_27_2 (by decide) dX6_loudest_30 ?_
      refine V.iload_n 1 dX6_loudest_33 rfl rfl ?_
      obtain ⟨r29, hc30, hF⟩ := bp_s hF
      refine V.callNi mf_X11_at ml_X6_79 (s_X11_at (Or.inl io_30) hc30) (by decide) rfl rfl (Nat.le_of_ble_eq_true rfl) dX6_loudest_34 ?_
      refine V.icmp_le (tgt := 44) dX6_loudest_37 rfl (fun c => ?_) (fun c => ?_)
      · replace hF := ip c hF
        refine V.iload_n 1 dX6_loudest_44 rfl rfl ?_
        exact V.sub [0, 2] rfl (v_X6_loudest_45 ih hF)
      · replace hF := iq c hF
        refine V.iload_n 2 dX6_loudest_40 rfl rfl ?_
        refine V.goto (tgt := 45) dX6_loudest_41 rfl ?_
        exact V.sub [0, 2] rfl (v_X6_loudest_45 ih hF)
def X6_loudest (n : Nat) (h : Mm) : Option Int32 := (X6_loudest_4 n n (0 : Int32) (1 : Int32) h)
set_option maxRecDepth 100000 in
set_option maxHeartbeats 4000000 in
theorem s_X6_loudest {X : WX} {o : Mm} {n : Nat} {rv : Int32} {h : Mm} (hF : X6_loudest n h = some rv) : Sat X yX6_loudest cX6_loudest 3 (some .int) 3 [.ref (xa X 246)] true o h (some (.int rv)) h := by
  unfold X6_loudest at hF
  refine Sat.mk (own := RX6) rfl (by decide +kernel) (Nat.le_of_ble_eq_true rfl) (fun G => ?_)
  refine V.sub (lv2 := [(0, _)]) [0] rfl ?_
  refine V.iconst (v := 0) dX6_loudest_0 rfl ?_
  refine V.istore_n [(1, _), (0, _)] dX6_loudest_1 rfl (by decide) rfl ?_
  refine V.iconst (v := 1) dX6_loudest_2 rfl ?_
  refine V.istore_n [(2, _), (1, _), (0, _)] dX6_loudest_3 rfl (by decide) rfl ?_
  exact V.sub [2, 1, 0] rfl (v_X6_loudest_4 n _ _ hF)
