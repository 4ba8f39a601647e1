/-! MonsterCot$Laws.worthByLaw -/
theorem dX4_worthByLaw_0 : decode cX4_worthByLaw 0 = .ok (.aload_n 0, 1) := by decide +kernel
theorem dX4_worthByLaw_1 : decode cX4_worthByLaw 1 = .ok (.getfield 30, 3) := by decide +kernel
theorem dX4_worthByLaw_4 : decode cX4_worthByLaw 4 = .ok (.ifCond .lt 15, 3) := by decide +kernel
theorem dX4_worthByLaw_7 : decode cX4_worthByLaw 7 = .ok (.aload_n 0, 1) := by decide +kernel
theorem dX4_worthByLaw_8 : decode cX4_worthByLaw 8 = .ok (.getfield 30, 3) := by decide +kernel
theorem dX4_worthByLaw_11 : decode cX4_worthByLaw 11 = .ok (.aload_n 0, 1) := by decide +kernel
theorem dX4_worthByLaw_12 : decode cX4_worthByLaw 12 = .ok (.getfield 13, 3) := by decide +kernel
theorem dX4_worthByLaw_15 : decode cX4_worthByLaw 15 = .ok (.arraylength, 1) := by decide +kernel
theorem dX4_worthByLaw_16 : decode cX4_worthByLaw 16 = .ok (.if_icmp .lt 5, 3) := by decide +kernel
theorem dX4_worthByLaw_19 : decode cX4_worthByLaw 19 = .ok (.iconst 0, 1) := by decide +kernel
theorem dX4_worthByLaw_20 : decode cX4_worthByLaw 20 = .ok (.ireturn, 1) := by decide +kernel
theorem dX4_worthByLaw_21 : decode cX4_worthByLaw 21 = .ok (.aload_n 0, 1) := by decide +kernel
theorem dX4_worthByLaw_22 : decode cX4_worthByLaw 22 = .ok (.getfield 13, 3) := by decide +kernel
theorem dX4_worthByLaw_25 : decode cX4_worthByLaw 25 = .ok (.aload_n 0, 1) := by decide +kernel
theorem dX4_worthByLaw_26 : decode cX4_worthByLaw 26 = .ok (.getfield 30, 3) := by decide +kernel
theorem dX4_worthByLaw_29 : decode cX4_worthByLaw 29 = .ok (.aaload, 1) := by decide +kernel
theorem dX4_worthByLaw_30 : decode cX4_worthByLaw 30 = .ok (.astore_n 1, 1) := by decide +kernel
theorem dX4_worthByLaw_31 : decode cX4_worthByLaw 31 = .ok (.aload_n 0, 1) := by decide +kernel
theorem dX4_worthByLaw_32 : decode cX4_worthByLaw 32 = .ok (.getfield 16, 3) := by decide +kernel
theorem dX4_worthByLaw_35 : decode cX4_worthByLaw 35 = .ok (.aload_n 0, 1) := by decide +kernel
theorem dX4_worthByLaw_36 : decode cX4_worthByLaw 36 = .ok (.getfield 30, 3) := by decide +kernel
theorem dX4_worthByLaw_39 : decode cX4_worthByLaw 39 = .ok (.invokestatic 68, 3) := by decide +kernel
theorem dX4_worthByLaw_42 : decode cX4_worthByLaw 42 = .ok (.aload_n 1, 1) := by decide +kernel
theorem dX4_worthByLaw_43 : decode cX4_worthByLaw 43 = .ok (.arraylength, 1) := by decide +kernel
theorem dX4_worthByLaw_44 : decode cX4_worthByLaw 44 = .ok (.invokestatic 72, 3) := by decide +kernel
theorem dX4_worthByLaw_47 : decode cX4_worthByLaw 47 = .ok (.istore_n 2, 1) := by decide +kernel
theorem dX4_worthByLaw_48 : decode cX4_worthByLaw 48 = .ok (.aload_n 0, 1) := by decide +kernel
theorem dX4_worthByLaw_49 : decode cX4_worthByLaw 49 = .ok (.iconst 0, 1) := by decide +kernel
theorem dX4_worthByLaw_50 : decode cX4_worthByLaw 50 = .ok (.putfield 78, 3) := by decide +kernel
theorem dX4_worthByLaw_53 : decode cX4_worthByLaw 53 = .ok (.iconst 0, 1) := by decide +kernel
theorem dX4_worthByLaw_54 : decode cX4_worthByLaw 54 = .ok (.istore_n 3, 1) := by decide +kernel
theorem dX4_worthByLaw_55 : decode cX4_worthByLaw 55 = .ok (.iload_n 3, 1) := by decide +kernel
theorem dX4_worthByLaw_56 : decode cX4_worthByLaw 56 = .ok (.iload_n 2, 1) := by decide +kernel
theorem dX4_worthByLaw_57 : decode cX4_worthByLaw 57 = .ok (.if_icmp .ge 170, 3) := by decide +kernel
theorem dX4_worthByLaw_60 : decode cX4_worthByLaw 60 = .ok (.aload_n 1, 1) := by decide +kernel
theorem dX4_worthByLaw_61 : decode cX4_worthByLaw 61 = .ok (.iload_n 3, 1) := by decide +kernel
theorem dX4_worthByLaw_62 : decode cX4_worthByLaw 62 = .ok (.iaload, 1) := by decide +kernel
theorem dX4_worthByLaw_63 : decode cX4_worthByLaw 63 = .ok (.istore 4, 2) := by decide +kernel
theorem dX4_worthByLaw_65 : decode cX4_worthByLaw 65 = .ok (.iload 4, 2) := by decide +kernel
theorem dX4_worthByLaw_67 : decode cX4_worthByLaw 67 = .ok (.bipush (-17), 2) := by decide +kernel
theorem dX4_worthByLaw_69 : decode cX4_worthByLaw 69 = .ok (.if_icmp .ne 8, 3) := by decide +kernel
theorem dX4_worthByLaw_72 : decode cX4_worthByLaw 72 = .ok (.aload_n 0, 1) := by decide +kernel
theorem dX4_worthByLaw_73 : decode cX4_worthByLaw 73 = .ok (.invokevirtual 81, 3) := by decide +kernel
theorem dX4_worthByLaw_76 : decode cX4_worthByLaw 76 = .ok (.ireturn, 1) := by decide +kernel
theorem dX4_worthByLaw_77 : decode cX4_worthByLaw 77 = .ok (.iload 4, 2) := by decide +kernel
theorem dX4_worthByLaw_79 : decode cX4_worthByLaw 79 = .ok (.bipush (-100), 2) := by decide +kernel
theorem dX4_worthByLaw_81 : decode cX4_worthByLaw 81 = .ok (.if_icmp .gt 29, 3) := by decide +kernel
theorem dX4_worthByLaw_84 : decode cX4_worthByLaw 84 = .ok (.aload_n 0, 1) := by decide +kernel
theorem dX4_worthByLaw_85 : decode cX4_worthByLaw 85 = .ok (.invokevirtual 81, 3) := by decide +kernel
theorem dX4_worthByLaw_88 : decode cX4_worthByLaw 88 = .ok (.ifCond .ne 17, 3) := by decide +kernel
theorem dX4_worthByLaw_91 : decode cX4_worthByLaw 91 = .ok (.iload_n 3, 1) := by decide +kernel
theorem dX4_worthByLaw_92 : decode cX4_worthByLaw 92 = .ok (.bipush (-100), 2) := by decide +kernel
theorem dX4_worthByLaw_94 : decode cX4_worthByLaw 94 = .ok (.iload 4, 2) := by decide +kernel
theorem dX4_worthByLaw_96 : decode cX4_worthByLaw 96 = .ok (.isub, 1) := by decide +kernel
theorem dX4_worthByLaw_97 : decode cX4_worthByLaw 97 = .ok (.iconst 1, 1) := by decide +kernel
theorem dX4_worthByLaw_98 : decode cX4_worthByLaw 98 = .ok (.isub, 1) := by decide +kernel
theorem dX4_worthByLaw_99 : decode cX4_worthByLaw 99 = .ok (.invokestatic 84, 3) := by decide +kernel
theorem dX4_worthByLaw_102 : decode cX4_worthByLaw 102 = .ok (.goto 4, 3) := by decide +kernel
theorem dX4_worthByLaw_105 : decode cX4_worthByLaw 105 = .ok (.iload_n 3, 1) := by decide +kernel
theorem dX4_worthByLaw_106 : decode cX4_worthByLaw 106 = .ok (.istore_n 3, 1) := by decide +kernel
theorem dX4_worthByLaw_107 : decode cX4_worthByLaw 107 = .ok (.goto 114, 3) := by decide +kernel
theorem dX4_worthByLaw_110 : decode cX4_worthByLaw 110 = .ok (.iload 4, 2) := by decide +kernel
theorem dX4_worthByLaw_112 : decode cX4_worthByLaw 112 = .ok (.ifCond .lt 12, 3) := by decide +kernel
theorem dX4_worthByLaw_115 : decode cX4_worthByLaw 115 = .ok (.aload_n 0, 1) := by decide +kernel
theorem dX4_worthByLaw_116 : decode cX4_worthByLaw 116 = .ok (.iload 4, 2) := by decide +kernel
theorem dX4_worthByLaw_118 : decode cX4_worthByLaw 118 = .ok (.invokevirtual 87, 3) := by decide +kernel
theorem dX4_worthByLaw_121 : decode cX4_worthByLaw 121 = .ok (.goto 100, 3) := by decide +kernel
theorem dX4_worthByLaw_124 : decode cX4_worthByLaw 124 = .ok (.iload 4, 2) := by decide +kernel
theorem dX4_worthByLaw_126 : decode cX4_worthByLaw 126 = .ok (.bipush (-7), 2) := by decide +kernel
theorem dX4_worthByLaw_128 : decode cX4_worthByLaw 128 = .ok (.if_icmp .le 21, 3) := by decide +kernel
theorem dX4_worthByLaw_131 : decode cX4_worthByLaw 131 = .ok (.aload_n 0, 1) := by decide +kernel
theorem dX4_worthByLaw_132 : decode cX4_worthByLaw 132 = .ok (.aload_n 0, 1) := by decide +kernel
theorem dX4_worthByLaw_133 : decode cX4_worthByLaw 133 = .ok (.getfield 20, 3) := by decide +kernel
theorem dX4_worthByLaw_136 : decode cX4_worthByLaw 136 = .ok (.iconst (-1), 1) := by decide +kernel
theorem dX4_worthByLaw_137 : decode cX4_worthByLaw 137 = .ok (.iload 4, 2) := by decide +kernel
theorem dX4_worthByLaw_139 : decode cX4_worthByLaw 139 = .ok (.isub, 1) := by decide +kernel
theorem dX4_worthByLaw_140 : decode cX4_worthByLaw 140 = .ok (.invokestatic 68, 3) := by decide +kernel
theorem dX4_worthByLaw_143 : decode cX4_worthByLaw 143 = .ok (.invokevirtual 87, 3) := by decide +kernel
theorem dX4_worthByLaw_146 : decode cX4_worthByLaw 146 = .ok (.goto 75, 3) := by decide +kernel
theorem dX4_worthByLaw_149 : decode cX4_worthByLaw 149 = .ok (.iload 4, 2) := by decide +kernel
theorem dX4_worthByLaw_151 : decode cX4_worthByLaw 151 = .ok (.bipush (-16), 2) := by decide +kernel
theorem dX4_worthByLaw_153 : decode cX4_worthByLaw 153 = .ok (.if_icmp .ne 16, 3) := by decide +kernel
theorem dX4_worthByLaw_156 : decode cX4_worthByLaw 156 = .ok (.aload_n 0, 1) := by decide +kernel
theorem dX4_worthByLaw_157 : decode cX4_worthByLaw 157 = .ok (.iconst 1, 1) := by decide +kernel
theorem dX4_worthByLaw_158 : decode cX4_worthByLaw 158 = .ok (.aload_n 0, 1) := by decide +kernel
theorem dX4_worthByLaw_159 : decode cX4_worthByLaw 159 = .ok (.invokevirtual 81, 3) := by decide +kernel
theorem dX4_worthByLaw_162 : decode cX4_worthByLaw 162 = .ok (.isub, 1) := by decide +kernel
theorem dX4_worthByLaw_163 : decode cX4_worthByLaw 163 = .ok (.invokevirtual 87, 3) := by decide +kernel
theorem dX4_worthByLaw_166 : decode cX4_worthByLaw 166 = .ok (.goto 55, 3) := by decide +kernel
theorem dX4_worthByLaw_169 : decode cX4_worthByLaw 169 = .ok (.aload_n 0, 1) := by decide +kernel
theorem dX4_worthByLaw_170 : decode cX4_worthByLaw 170 = .ok (.invokevirtual 81, 3) := by decide +kernel
theorem dX4_worthByLaw_173 : decode cX4_worthByLaw 173 = .ok (.istore 5, 2) := by decide +kernel
theorem dX4_worthByLaw_175 : decode cX4_worthByLaw 175 = .ok (.aload_n 0, 1) := by decide +kernel
theorem dX4_worthByLaw_176 : decode cX4_worthByLaw 176 = .ok (.invokevirtual 81, 3) := by decide +kernel
theorem dX4_worthByLaw_179 : decode cX4_worthByLaw 179 = .ok (.istore 6, 2) := by decide +kernel
theorem dX4_worthByLaw_181 : decode cX4_worthByLaw 181 = .ok (.aload_n 0, 1) := by decide +kernel
theorem dX4_worthByLaw_182 : decode cX4_worthByLaw 182 = .ok (.iload 4, 2) := by decide +kernel
theorem dX4_worthByLaw_184 : decode cX4_worthByLaw 184 = .ok (.bipush (-10), 2) := by decide +kernel
theorem dX4_worthByLaw_186 : decode cX4_worthByLaw 186 = .ok (.if_icmp .lt 15, 3) := by decide +kernel
theorem dX4_worthByLaw_189 : decode cX4_worthByLaw 189 = .ok (.iload 4, 2) := by decide +kernel
theorem dX4_worthByLaw_191 : decode cX4_worthByLaw 191 = .ok (.iload 6, 2) := by decide +kernel
theorem dX4_worthByLaw_193 : decode cX4_worthByLaw 193 = .ok (.iload 5, 2) := by decide +kernel
theorem dX4_worthByLaw_195 : decode cX4_worthByLaw 195 = .ok (.invokestatic 91, 3) := by decide +kernel
theorem dX4_worthByLaw_198 : decode cX4_worthByLaw 198 = .ok (.goto 20, 3) := by decide +kernel
theorem dX4_worthByLaw_201 : decode cX4_worthByLaw 201 = .ok (.iload 4, 2) := by decide +kernel
theorem dX4_worthByLaw_203 : decode cX4_worthByLaw 203 = .ok (.iload 6, 2) := by decide +kernel
theorem dX4_worthByLaw_205 : decode cX4_worthByLaw 205 = .ok (.iload 5, 2) := by decide +kernel
theorem dX4_worthByLaw_207 : decode cX4_worthByLaw 207 = .ok (.invokestatic 94, 3) := by decide +kernel
theorem dX4_worthByLaw_210 : decode cX4_worthByLaw 210 = .ok (.ifCond .eq 7, 3) := by decide +kernel
theorem dX4_worthByLaw_213 : decode cX4_worthByLaw 213 = .ok (.iconst 1, 1) := by decide +kernel
theorem dX4_worthByLaw_214 : decode cX4_worthByLaw 214 = .ok (.goto 4, 3) := by decide +kernel
theorem dX4_worthByLaw_217 : decode cX4_worthByLaw 217 = .ok (.iconst 0, 1) := by decide +kernel
theorem dX4_worthByLaw_218 : decode cX4_worthByLaw 218 = .ok (.invokevirtual 87, 3) := by decide +kernel
theorem dX4_worthByLaw_221 : decode cX4_worthByLaw 221 = .ok (.iinc 3 1, 3) := by decide +kernel
theorem dX4_worthByLaw_224 : decode cX4_worthByLaw 224 = .ok (.goto (-169), 3) := by decide +kernel
theorem dX4_worthByLaw_227 : decode cX4_worthByLaw 227 = .ok (.iconst 0, 1) := by decide +kernel
theorem dX4_worthByLaw_228 : decode cX4_worthByLaw 228 = .ok (.ireturn, 1) := by decide +kernel
def X4_worthByLaw_221 (n : Nat) (K55 : Nat → Int32 → Int32 → Mm → Option (Int32 × Mm)) (x1 : Nat) (x2 : Int32) (x3 : Int32) (h : Mm) : Option (Int32 × Mm) := (K55 x1 x2 (x3 + (1)) h)
set_option maxRecDepth 100000 in
set_option maxHeartbeats 4000000 in
theorem v_X4_worthByLaw_221 {X : WX} {G : GX} {o : Mm} {n : Nat} {K55 : Nat → Int32 → Int32 → Mm → Option (Int32 × Mm)} {rv : Int32} {hz : Mm} (hK55 : ∀ (x1 : Nat) (x2 : Int32) (x3 : Int32) (h : Mm), isO true 0 x1 → K55 x1 x2 x3 h = some (rv, hz) → V X G RX4 cX4_worthByLaw 7 (some .int) 2 0 0 (QR X G true o (some (.int rv)) hz) true o 55 [(0, .ref (xa X 16)), (1, .ref (xa X x1)), (2, .int x2), (3, .int x3)] [] h) {x1 : Nat} {x2 : Int32} {x3 : Int32} (hx1 : isO true 0 x1) {h : Mm} (hF : X4_worthByLaw_221 n K55 x1 x2 x3 h = some (rv, hz)) : V X G RX4 cX4_worthByLaw 7 (some .int) 2 0 0 (QR X G true o (some (.int rv)) hz) true o 221 [(0, .ref (xa X 16)), (1, .ref (xa X x1)), (2, .int x2), (3, .int x3)] [] h := by
  unfold X4_worthByLaw_221 at hF
  refine V.iinc (v := (x3 + (1))) 3 [(3, _), (0, _), (1, _), (2, _)] dX4_worthByLaw_221 rfl rfl (by decide) rfl ?_
  refine V.goto (tgt := 55) dX4_worthByLaw_224 rfl ?_
  exact V.sub [1, 2, 3, 0] rfl (hK55 _ _ _ _ hx1 hF)
def X4_worthByLaw_106 (n : Nat) (K55 : Nat → Int32 → Int32 → Mm → Option (Int32 × Mm)) (x1 : Nat) (x2 : Int32) (s0 : Int32) (h : Mm) : Option (Int32 × Mm) := (X4_worthByLaw_221 n K55 x1 x2 s0 h)
set_option maxRecDepth 100000 in
set_option maxHeartbeats 4000000 in
theorem v_X4_worthByLaw_106 {X : WX} {G : GX} {o : Mm} {n : Nat} {K55 : Nat → Int32 → Int32 → Mm → Option (Int32 × Mm)} {rv : Int32} {hz : Mm} (hK55 : ∀ (x1 : Nat) (x2 : Int32) (x3 : Int32) (h : Mm), isO true 0 x1 → K55 x1 x2 x3 h = some (rv, hz) → V X G RX4 cX4_worthByLaw 7 (some .int) 2 0 0 (QR X G true o (some (.int rv)) hz) true o 55 [(0, .ref (xa X 16)), (1, .ref (xa X x1)), (2, .int x2), (3, .int x3)] [] h) {x1 : Nat} {x2 : Int32} {s0 : Int32} (hx1 : isO true 0 x1) {h : Mm} (hF : X4_worthByLaw_106 n K55 x1 x2 s0 h = some (rv, hz)) : V X G RX4 cX4_worthByLaw 7 (some .int) 2 0 0 (QR X G true o (some (.int rv)) hz) true o 106 [(0, .ref (xa X 16)), (1, .ref (xa X x1)), (2, .int x2)] [.int s0] h := by
  unfold X4_worthByLaw_106 at hF
  refine V.istore_n [(3, _), (0, _), (1, _), (2, _)] dX4_worthByLaw_106 rfl (by decide) rfl ?_
  refine V.goto (tgt := 221) dX4_worthByLaw_107 rfl ?_
  exact V.sub [1, 2, 3, 0] rfl (v_X4_worthByLaw_221 hK55 hx1 hF)
def X4_worthByLaw_218 (n : Nat) (K55 : Nat → Int32 → Int32 → Mm → Option (Int32 × Mm)) (x1 : Nat) (x2 : Int32) (x3 : Int32) (s1 : Int32) (h : Mm) : Option (Int32 × Mm) := (bd (X4_push s1 h) (fun _ h160 => (X4_worthByLaw_221 n K55 x1 x2 x3 h160)))
set_option maxRecDepth 100000 in
set_option maxHeartbeats 4000000 in
theorem v_X4_worthByLaw_218 {X : WX} {G : GX} {o : Mm} {n : Nat} {K55 : Nat → Int32 → Int32 → Mm → Option (Int32 × Mm)} {rv : Int32} {hz : Mm} (hK55 : ∀ (x1 : Nat) (x2 : Int32) (x3 : Int32) (h : Mm), isO true 0 x1 → K55 x1 x2 x3 h = some (rv, hz) → V X G RX4 cX4_worthByLaw 7 (some .int) 2 0 0 (QR X G true o (some (.int rv)) hz) true o 55 [(0, .ref (xa X 16)), (1, .ref (xa X x1)), (2, .int x2), (3, .int x3)] [] h) {x1 : Nat} {x2 : Int32} {x3 : Int32} {s1 : Int32} (hx1 : isO true 0 x1) {h : Mm} (hF : X4_worthByLaw_218 n K55 x1 x2 x3 s1 h = some (rv, hz)) : V X G RX4 cX4_worthByLaw 7 (some .int) 2 0 0 (QR X G true o (some (.int rv)) hz) true o 218 [(0, .ref (xa X 16)), (1, .ref (xa X x1)), (2, .int x2), (3, .int x3)] [.int s1, .ref (xa X 16)] h := by
  unfold X4_worthByLaw_218 at hF
  obtain ⟨r158, h160, hc159, hF⟩ := bd_s hF
  refine V.callVv mf_X4_push ml_X4_87 sh_16 (s_X4_push hc159) (by decide) rfl rfl (Nat.le_of_ble_eq_true rfl) dX4_worthByLaw_218 ?_
  exact (v_X4_worthByLaw_221 hK55 hx1 hF)
def X4_worthByLaw_55 (n : Nat) : Nat → Nat → Int32 → Int32 → Mm → Option (Int32 × Mm)
  | 0, _, _, _, _ => none
  | f + 1, x1, x2, x3, h => (if x2 ≤ x3 then (some ((0 : Int32), h)) else (if inB x3 (aln x1) then (if (h.1 x1 x3.toNatClampNeg) = (-17 : Int32) then (bd (X4_pop h) (fun r190 h192 => (some (r190, h192)))) else (if (-100 : Int32) < (h.1 x1 x3.toNatClampNeg) then (if (h.1 x1 x3.toNatClampNeg) < 0 then (if (h.1 x1 x3.toNatClampNeg) ≤ (-7 : Int32) then (if (h.1 x1 x3.toNatClampNeg) = (-16 : Int32) then (bd (X4_pop h) (fun r171 h173 => (bd (X4_push ((1 : Int32) - r171) h173) (fun _ h176 => (X4_worthByLaw_221 n (X4_worthByLaw_55 n f) x1 x2 x3 h176))))) else (bd (X4_pop h) (fun r161 h163 => (bd (X4_pop h163) (fun r164 h166 => (if (h.1 x1 x3.toNatClampNeg) < (-10 : Int32) then (bp (X4_compare (h.1 x1 x3.toNatClampNeg) r164 r161 h166) (fun r167 => (if r167 = true then (X4_worthByLaw_218 n (X4_worthByLaw_55 n f) x1 x2 x3 (1 : Int32) h166) else (X4_worthByLaw_218 n (X4_worthByLaw_55 n f) x1 x2 x3 (0 : Int32) h166)))) else (bp (X4_reckon (h.1 x1 x3.toNatClampNeg) r164 r161 h166) (fun r169 => (X4_worthByLaw_218 n (X4_worthByLaw_55 n f) x1 x2 x3 r169 h166))))))))) else (bp (X11_at 23 ((-1 : Int32) - (h.1 x1 x3.toNatClampNeg)) h) (fun r177 => (bd (X4_push r177 h) (fun _ h181 => (X4_worthByLaw_221 n (X4_worthByLaw_55 n f) x1 x2 x3 h181)))))) else (bd (X4_push (h.1 x1 x3.toNatClampNeg) h) (fun _ h184 => (X4_worthByLaw_221 n (X4_worthByLaw_55 n f) x1 x2 x3 h184)))) else (bd (X4_pop h) (fun r185 h187 => (if r185 = 0 then (bp (J9_max_7cf53 x3 (((-100 : Int32) - (h.1 x1 x3.toNatClampNeg)) - (1 : Int32)) h187) (fun r188 => (X4_worthByLaw_106 n (X4_worthByLaw_55 n f) x1 x2 r188 h187))) else (X4_worthByLaw_106 n (X4_worthByLaw_55 n f) x1 x2 x3 h187)))))) else none))
set_option maxRecDepth 100000 in
set_option maxHeartbeats 4000000 in
theorem v_X4_worthByLaw_55 {X : WX} {G : GX} {o : Mm} {n : Nat} {rv : Int32} {hz : Mm} : ∀ (f : Nat) (x1 : Nat) (x2 : Int32) (x3 : Int32) (h : Mm), isO true 0 x1 → X4_worthByLaw_55 n f x1 x2 x3 h = some (rv, hz) → V X G RX4 cX4_worthByLaw 7 (some .int) 2 0 0 (QR X G true o (some (.int rv)) hz) true o 55 [(0, .ref (xa X 16)), (1, .ref (xa X x1)), (2, .int x2), (3, .int x3)] [] h := by
  intro f
  induction f with
  | zero => intro x1 x2 x3 h hx1 hF; exact nomatch (show (none : Option (Int32 × Mm)) = some (rv, hz) from hF)
  | succ f ih =>
    intro x1 x2 x3 h hx1 hF
    unfold X4_worthByLaw_55 at hF
    refine V.iload_n 3 dX4_worthByLaw_55 rfl rfl ?_
    refine V.iload_n 2 dX4_worthByLaw_56 rfl rfl ?_
    refine V.icmp_ge (tgt := 227) dX4_worthByLaw_57 rfl (fun c => ?_) (fun c => ?_)
    · replace hF := ip c hF
      refine V.iconst (v := 0) dX4_worthByLaw_227 rfl ?_
      cases hF
      exact V.iret dX4_worthByLaw_228
    · replace hF := iq c hF
      refine V.aload_n 1 dX4_worthByLaw_60 rfl rfl ?_
      refine V.iload_n 3 dX4_worthByLaw_61 rfl rfl ?_
      obtain ⟨hk, hF⟩ := ck hF
      refine V.iald hx1 hk dX4_worthByLaw_62 ?_
      refine V.istore [(4, _), (0, _), (1, _), (2, _), (3, _)] dX4_worthByLaw_63 (by decide) rfl ?_
      refine V.iload 0 dX4_worthByLaw_65 rfl ?_
      refine V.bipush (v := -17) dX4_worthByLaw_67 (by decide) ?_
      refine V.icmp_ne (tgt := 77) dX4_worthByLaw_69 rfl (fun c => ?_) (fun c => ?_)
      · replace hF := iq c hF
        refine V.iload 0 dX4_worthByLaw_77 rfl ?_
        refine V.bipush (v := -100) dX4_worthByLaw_79 (by decide) ?_
        refine V.icmp_gt (tgt := 110) dX4_worthByLaw_81 rfl (fun c => ?_) (fun c => ?_)
        · replace hF := ip c hF
          refine V.iload 0 dX4_worthByLaw_110 rfl ?_
          refine V.if_lt (tgt := 124) dX4_worthByLaw_112 rfl (fun c => ?_) (fun c => ?_)
          · replace hF := ip c hF
            refine V.iload 0 dX4_worthByLaw_124 rfl ?_
            refine V.bipush (v := -7) dX4_worthByLaw_126 (by decide) ?_
            refine V.icmp_le (tgt := 149) dX4_worthByLaw_128 rfl (fun c => ?_) (fun c => ?_)
            · replace hF := ip c hF
              refine V.iload 0 dX4_worthByLaw_149 rfl ?_
              refine V.bipush (v := -16) dX4_worthByLaw_151 (by decide) ?_
              refine V.icmp_ne (tgt := 169) dX4_worthByLaw_153 rfl (fun c => ?_) (fun c => ?_)
              · replace hF := iq c hF
                refine V.aload_n 1 dX4_worthByLaw_169 rfl rfl ?_
                obtain ⟨r161, h163, hc162, hF⟩ := bd_s hF
                refine V.callVi mf_X4_pop ml_X4_81 sh_16 (s_X4_pop hc162) (by decide) rfl rfl (Nat.le_of_ble_eq_true rfl) dX4_worthByLaw_170 ?_
                refine V.istore [(5, _), (4, _), (0, _), (1, _), (2, _), (3, _)] dX4_worthByLaw_173 (by decide) rfl ?_
                refine V.aload_n 2 dX4_worthByLaw_175 rfl rfl ?_
                obtain ⟨r164, h166, hc165, hF⟩ := bd_s hF
                refine V.callVi mf_X4_pop ml_X4_81 sh_16 (s_X4_pop hc165) (by decide) rfl rfl (Nat.le_of_ble_eq_true rfl) dX4_worthByLaw_176 ?_
                refine V.istore [(6, _), (5, _), (4, _), (0, _), (1, _), (2, _), (3, _)] dX4_worthByLaw_179 (by decide) rfl ?_
                refine V.aload_n 3 dX4_worthByLaw_181 rfl rfl ?_
                refine V.iload 2 dX4_worthByLaw_182 rfl ?_
                refine V.bipush (v := -10) dX4_worthByLaw_184 (by decide) ?_
                refine V.icmp_lt (tgt := 201) dX4_worthByLaw_186 rfl (fun c => ?_) (fun c => ?_)
                · replace hF := ip c hF
                  refine V.iload 2 dX4_worthByLaw_201 rfl ?_
                  refine V.iload 0 dX4_worthByLaw_203 rfl ?_
                  refine V.iload 1 dX4_worthByLaw_205 rfl ?_
                  obtain ⟨r167, hc168, hF⟩ := bp_s hF
                  refine V.callSi mf_X4_compare ml_X4_94 (s_X4_compare hc168) (by decide) rfl rfl (Nat.le_of_ble_eq_true rfl) dX4_worthByLaw_207 ?_
                  refine V.ifz_eq (tgt := 217) dX4_worthByLaw_210 rfl (fun c => ?_) (fun c => ?_)
                  · replace hF := iq c hF
                    refine V.iconst (v := 0) dX4_worthByLaw_217 rfl ?_
                    exact V.sub [3, 4, 5, 6] rfl (v_X4_worthByLaw_218 ih hx1 hF)
                  · replace hF := ip c hF
                    refine V.iconst (v := 1) dX4_worthByLaw_213 rfl ?_
                    refine V.goto (tgt := 218) dX4_worthByLaw_214 rfl ?_
                    exact V.sub [3, 4, 5, 6] rfl (v_X4_worthByLaw_218 ih hx1 hF)
                · replace hF := iq c hF
                  refine V.iload 2 dX4_worthByLaw_189 rfl ?_
                  refine V.iload 0 dX4_worthByLaw_191 rfl ?_
                  refine V.iload 1 dX4_worthByLaw_193 rfl ?_
                  obtain ⟨r169, hc170, hF⟩ := bp_s hF
                  refine V.callSi mf_X4_reckon ml_X4_91 (s_X4_reckon hc170) (by decide) rfl rfl (Nat.le_of_ble_eq_true rfl) dX4_worthByLaw_195 ?_
                  refine V.goto (tgt := 218) dX4_worthByLaw_198 rfl ?_
                  exact V.sub [3, 4, 5, 6] rfl (v_X4_worthByLaw_218 ih hx1 hF)
              · replace hF := ip c hF
                refine V.aload_n 1 dX4_worthByLaw_156 rfl rfl ?_
                refine V.iconst (v := 1) dX4_worthByLaw_157 rfl ?_
                refine V.aload_n 1 dX4_worthByLaw_158 rfl rfl ?_
                obtain ⟨r171, h173, hc172, hF⟩ := bd_s hF
                refine V.callVi mf_X4_pop ml_X4_81 sh_16 (s_X4_pop hc172) (by decide) rfl rfl (Nat.le_of_ble_eq_true rfl) dX4_worthByLaw_159 ?_
                refine V.isub dX4_worthByLaw_162 ?_
                obtain ⟨r174, h176, hc175, hF⟩ := bd_s hF
                refine V.callVv mf_X4_push ml_X4_87 sh_16 (s_X4_push hc175) (by decide) rfl rfl (Nat.le_of_ble_eq_true rfl) dX4_worthByLaw_163 ?_
                refine V.goto (tgt := 221) dX4_worthByLaw_166 rfl ?_
                exact V.sub [1, 2, 3, 4] rfl (v_X4_worthByLaw_221 ih hx1 hF)
            · replace hF := iq c hF
              refine V.aload_n 1 dX4_worthByLaw_131 rfl rfl ?_
              refine V.aload_n 1 dX4_worthByLaw_132 rfl rfl ?_
              refine V.getR (v := 23) fl_X4_20 sh_16 rfl fx_16_2 (by decide) dX4_worthByLaw_133 ?_
              refine V.iconst (v := -1) dX4_worthByLaw_136 rfl ?_
              refine V.iload 0 dX4_worthByLaw_137 rfl ?_
              refine V.isub dX4_worthByLaw_139 ?_
              obtain ⟨r177, hc178, hF⟩ := bp_s hF
              refine V.callNi mf_X11_at ml_X4_68 (s_X11_at (Or.inl io_23) hc178) (by decide) rfl rfl (Nat.le_of_ble_eq_true rfl) dX4_worthByLaw_140 ?_
              obtain ⟨r179, h181, hc180, hF⟩ := bd_s hF
              refine V.callVv mf_X4_push ml_X4_87 sh_16 (s_X4_push hc180) (by decide) rfl rfl (Nat.le_of_ble_eq_true rfl) dX4_worthByLaw_143 ?_
              refine V.goto (tgt := 221) dX4_worthByLaw_146 rfl ?_
              exact V.sub [1, 2, 3, 4] rfl (v_X4_worthByLaw_221 ih hx1 hF)
          · replace hF := iq c hF
            refine V.aload_n 1 dX4_worthByLaw_115 rfl rfl ?_
            refine V.iload 0 dX4_worthByLaw_116 rfl ?_
            obtain ⟨r182, h184, hc183, hF⟩ := bd_s hF
            refine V.callVv mf_X4_push ml_X4_87 sh_16 (s_X4_push hc183) (by decide) rfl rfl (Nat.le_of_ble_eq_true rfl) dX4_worthByLaw_118 ?_
            refine V.goto (tgt := 221) dX4_worthByLaw_121 rfl ?_
            exact V.sub [1, 2, 3, 4] rfl (v_X4_worthByLaw_221 ih hx1 hF)
        · replace hF := iq c hF
          refine V.aload_n 1 dX4_worthByLaw_84 rfl rfl ?_
          obtain ⟨r185, h187, hc186, hF⟩ := bd_s hF
          refine V.callVi mf_X4_pop ml_X4_81 sh_16 (s_X4_pop hc186) (by decide) rfl rfl (Nat.le_of_ble_eq_true rfl) dX4_worthByLaw_85 ?_
          refine V.if_ne (tgt := 105) dX4_worthByLaw_88 rfl (fun c => ?_) (fun c => ?_)
          · replace hF := iq c hF
            refine V.iload_n 4 dX4_worthByLaw_105 rfl rfl ?_
            exact V.sub [1, 2, 3] rfl (v_X4_worthByLaw_106 ih hx1 hF)
          · replace hF := ip c hF
            refine V.iload_n 4 dX4_worthByLaw_91 rfl rfl ?_
            refine V.bipush (v := -100) dX4_worthByLaw_92 (by decide) ?_
            refine V.iload 0 dX4_worthByLaw_94 rfl ?_
            refine V.isub dX4_worthByLaw_96 ?_
            refine V.iconst (v := 1) dX4_worthByLaw_97 rfl ?_
            refine V.isub dX4_worthByLaw_98 ?_
            obtain ⟨r188, hc189, hF⟩ := bp_s hF
            refine V.callSi mf_J9_max_7cf53 ml_X4_84 (s_J9_max_7cf53 hc189) (by decide) rfl rfl (Nat.le_of_ble_eq_true rfl) dX4_worthByLaw_99 ?_
            refine V.goto (tgt := 106) dX4_worthByLaw_102 rfl ?_
            exact V.sub [1, 2, 3] rfl (v_X4_worthByLaw_106 ih hx1 hF)
      · replace hF := ip c hF
        refine V.aload_n 1 dX4_worthByLaw_72 rfl rfl ?_
        obtain ⟨r190, h192, hc191, hF⟩ := bd_s hF
        refine V.callVi mf_X4_pop ml_X4_81 sh_16 (s_X4_pop hc191) (by decide) rfl rfl (Nat.le_of_ble_eq_true rfl) dX4_worthByLaw_73 ?_
        cases hF
        exact V.iret dX4_worthByLaw_76
def X4_worthByLaw (n : Nat) (h : Mm) : Option (Int32 × Mm) := (if (h.1 16 6) < 0 then (some ((0 : Int32), h)) else (if (h.1 16 6) < (4 : Int32) then (if inB (h.1 16 6) 4 then (bp (X11_at 22 (h.1 16 6) h) (fun r194 => (bp (J9_min_7cf53 r194 (Int32.ofNat (aln (18 + (h.1 16 6).toNatClampNeg))) h) (fun r196 => (X4_worthByLaw_55 n n (18 + (h.1 16 6).toNatClampNeg) r196 (0 : Int32) (wI h 16 7 (0 : Int32))))))) else none) else (some ((0 : Int32), h))))
set_option maxRecDepth 100000 in
set_option maxHeartbeats 4000000 in
theorem s_X4_worthByLaw {X : WX} {o : Mm} {n : Nat} {rv : Int32} {hz : Mm} {h : Mm} (hF : X4_worthByLaw n h = some (rv, hz)) : Sat X yX4_worthByLaw cX4_worthByLaw 7 (some .int) 2 [.ref (xa X 16)] true o h (some (.int rv)) hz := by
  unfold X4_worthByLaw at hF
  refine Sat.mk (own := RX4) rfl (by decide +kernel) (Nat.le_of_ble_eq_true rfl) (fun G => ?_)
  refine V.sub (lv2 := [(0, _)]) [0] rfl ?_
  refine V.aload_n 0 dX4_worthByLaw_0 rfl rfl ?_
  refine V.getI fl_X4_30 sh_16 rfl km_16 dX4_worthByLaw_1 ?_
  refine V.if_lt (tgt := 19) dX4_worthByLaw_4 rfl (fun c => ?_) (fun c => ?_)
  · replace hF := ip c hF
    refine V.iconst (v := 0) dX4_worthByLaw_19 rfl ?_
    cases hF
    exact V.iret dX4_worthByLaw_20
  · replace hF := iq c hF
    refine V.aload_n 0 dX4_worthByLaw_7 rfl rfl ?_
    refine V.getI fl_X4_30 sh_16 rfl km_16 dX4_worthByLaw_8 ?_
    refine V.aload_n 0 dX4_worthByLaw_11 rfl rfl ?_
    refine V.getR (v := 17) fl_X4_13 sh_16 rfl fx_16_0 (by decide) dX4_worthByLaw_12 ?_
    refine V.alen (v := 4) sh_17 (by decide) rfl dX4_worthByLaw_15 ?_
    refine V.icmp_lt (tgt := 21) dX4_worthByLaw_16 rfl (fun c => ?_) (fun c => ?_)
    · replace hF := ip c hF
      refine V.aload_n 0 dX4_worthByLaw_21 rfl rfl ?_
      refine V.getR (v := 17) fl_X4_13 sh_16 rfl fx_16_0 (by decide) dX4_worthByLaw_22 ?_
      refine V.aload_n 0 dX4_worthByLaw_25 rfl rfl ?_
      refine V.getI fl_X4_30 sh_16 rfl km_16 dX4_worthByLaw_26 ?_
      obtain ⟨hk, hF⟩ := ck hF
      have hx193 := hk.lt
      refine V.aald (v := (18 + (h.1 16 6).toNatClampNeg)) sh_17 (Or.inr rfl) hk (rows_fx hx193) (by omega) dX4_worthByLaw_29 ?_
      refine V.astore_n [(1, _), (0, _)] dX4_worthByLaw_30 rfl (by decide) rfl ?_
      refine V.aload_n 1 dX4_worthByLaw_31 rfl rfl ?_
      refine V.getR (v := 22) fl_X4_16 sh_16 rfl fx_16_1 (by decide) dX4_worthByLaw_32 ?_
      refine V.aload_n 1 dX4_worthByLaw_35 rfl rfl ?_
      refine V.getI fl_X4_30 sh_16 rfl km_16 dX4_worthByLaw_36 ?_
      obtain ⟨r194, hc195, hF⟩ := bp_s hF
      refine V.callNi mf_X11_at ml_X4_68 (s_X11_at (Or.inl io_22) hc195) (by decide) rfl rfl (Nat.le_of_ble_eq_true rfl) dX4_worthByLaw_39 ?_
      refine V.aload_n 0 dX4_worthByLaw_42 rfl rfl ?_
      refine V.alen (rows_io hx193).1 (by decide) rfl dX4_worthByLaw_43 ?_
      obtain ⟨r196, hc197, hF⟩ := bp_s hF
      refine V.callSi mf_J9_min_7cf53 ml_X4_72 (s_J9_min_7cf53 hc197) (by decide) rfl rfl (Nat.le_of_ble_eq_true rfl) dX4_worthByLaw_44 ?_
      refine V.istore_n [(2, _), (1, _), (0, _)] dX4_worthByLaw_47 rfl (by decide) rfl ?_
      refine V.aload_n 2 dX4_worthByLaw_48 rfl rfl ?_
      refine V.iconst (v := 0) dX4_worthByLaw_49 rfl ?_
      refine V.putI fl_X4_78 rfl (tyX4_ok 7 (by decide)) rfl rfl sh_16 rfl km_16 dX4_worthByLaw_50 ?_
      refine V.iconst (v := 0) dX4_worthByLaw_53 rfl ?_
      refine V.istore_n [(3, _), (2, _), (1, _), (0, _)] dX4_worthByLaw_54 rfl (by decide) rfl ?_
      exact V.sub [3, 2, 1, 0] rfl (v_X4_worthByLaw_55 n _ _ _ _ (rows_io hx193) hF)
    · replace hF := iq c hF
      refine V.iconst (v := 0) dX4_worthByLaw_19 rfl ?_
      cases hF
      exact V.iret dX4_worthByLaw_20
/-! MonsterCot$Laws.worthOf -/
theorem dX4_worthOf_0 : decode cX4_worthOf 0 = .ok (.aload_n 0, 1) := by decide +kernel
theorem dX4_worthOf_1 : decode cX4_worthOf 1 = .ok (.getfield 30, 3) := by decide +kernel
theorem dX4_worthOf_4 : decode cX4_worthOf 4 = .ok (.ifCond .ge 18, 3) := by decide +kernel
theorem dX4_worthOf_7 : decode cX4_worthOf 7 = .ok (.bipush (-9), 2) := by decide +kernel
theorem dX4_worthOf_9 : decode cX4_worthOf 9 = .ok (.iload_n 1, 1) := by decide +kernel
theorem dX4_worthOf_10 : decode cX4_worthOf 10 = .ok (.iload_n 2, 1) := by decide +kernel
theorem dX4_worthOf_11 : decode cX4_worthOf 11 = .ok (.iconst 3, 1) := by decide +kernel
theorem dX4_worthOf_12 : decode cX4_worthOf 12 = .ok (.idiv, 1) := by decide +kernel
theorem dX4_worthOf_13 : decode cX4_worthOf 13 = .ok (.iadd, 1) := by decide +kernel
theorem dX4_worthOf_14 : decode cX4_worthOf 14 = .ok (.iload_n 3, 1) := by decide +kernel
theorem dX4_worthOf_15 : decode cX4_worthOf 15 = .ok (.isub, 1) := by decide +kernel
theorem dX4_worthOf_16 : decode cX4_worthOf 16 = .ok (.bipush 20, 2) := by decide +kernel
theorem dX4_worthOf_18 : decode cX4_worthOf 18 = .ok (.invokestatic 50, 3) := by decide +kernel
theorem dX4_worthOf_21 : decode cX4_worthOf 21 = .ok (.ireturn, 1) := by decide +kernel
theorem dX4_worthOf_22 : decode cX4_worthOf 22 = .ok (.aload_n 0, 1) := by decide +kernel
theorem dX4_worthOf_23 : decode cX4_worthOf 23 = .ok (.getfield 30, 3) := by decide +kernel
theorem dX4_worthOf_26 : decode cX4_worthOf 26 = .ok (.i2l, 1) := by decide +kernel
theorem dX4_worthOf_27 : decode cX4_worthOf 27 = .ok (.ldc2_w 54, 3) := by decide +kernel
theorem dX4_worthOf_30 : decode cX4_worthOf 30 = .ok (.lmul, 1) := by decide +kernel
theorem dX4_worthOf_31 : decode cX4_worthOf 31 = .ok (.iload_n 1, 1) := by decide +kernel
theorem dX4_worthOf_32 : decode cX4_worthOf 32 = .ok (.i2l, 1) := by decide +kernel
theorem dX4_worthOf_33 : decode cX4_worthOf 33 = .ok (.ladd, 1) := by decide +kernel
theorem dX4_worthOf_34 : decode cX4_worthOf 34 = .ok (.ldc2_w 54, 3) := by decide +kernel
theorem dX4_worthOf_37 : decode cX4_worthOf 37 = .ok (.lmul, 1) := by decide +kernel
theorem dX4_worthOf_38 : decode cX4_worthOf 38 = .ok (.iload_n 2, 1) := by decide +kernel
theorem dX4_worthOf_39 : decode cX4_worthOf 39 = .ok (.i2l, 1) := by decide +kernel
theorem dX4_worthOf_40 : decode cX4_worthOf 40 = .ok (.ladd, 1) := by decide +kernel
theorem dX4_worthOf_41 : decode cX4_worthOf 41 = .ok (.ldc2_w 56, 3) := by decide +kernel
theorem dX4_worthOf_44 : decode cX4_worthOf 44 = .ok (.lmul, 1) := by decide +kernel
theorem dX4_worthOf_45 : decode cX4_worthOf 45 = .ok (.iload 6, 2) := by decide +kernel
theorem dX4_worthOf_47 : decode cX4_worthOf 47 = .ok (.i2l, 1) := by decide +kernel
theorem dX4_worthOf_48 : decode cX4_worthOf 48 = .ok (.ladd, 1) := by decide +kernel
theorem dX4_worthOf_49 : decode cX4_worthOf 49 = .ok (.lstore 7, 2) := by decide +kernel
theorem dX4_worthOf_51 : decode cX4_worthOf 51 = .ok (.lload 7, 2) := by decide +kernel
theorem dX4_worthOf_53 : decode cX4_worthOf 53 = .ok (.ldc2_w 54, 3) := by decide +kernel
theorem dX4_worthOf_56 : decode cX4_worthOf 56 = .ok (.lmul, 1) := by decide +kernel
theorem dX4_worthOf_57 : decode cX4_worthOf 57 = .ok (.iload_n 3, 1) := by decide +kernel
theorem dX4_worthOf_58 : decode cX4_worthOf 58 = .ok (.i2l, 1) := by decide +kernel
theorem dX4_worthOf_59 : decode cX4_worthOf 59 = .ok (.ladd, 1) := by decide +kernel
theorem dX4_worthOf_60 : decode cX4_worthOf 60 = .ok (.ldc2_w 54, 3) := by decide +kernel
theorem dX4_worthOf_63 : decode cX4_worthOf 63 = .ok (.lmul, 1) := by decide +kernel
theorem dX4_worthOf_64 : decode cX4_worthOf 64 = .ok (.iload 4, 2) := by decide +kernel
theorem dX4_worthOf_66 : decode cX4_worthOf 66 = .ok (.i2l, 1) := by decide +kernel
theorem dX4_worthOf_67 : decode cX4_worthOf 67 = .ok (.ladd, 1) := by decide +kernel
theorem dX4_worthOf_68 : decode cX4_worthOf 68 = .ok (.ldc2_w 58, 3) := by decide +kernel
theorem dX4_worthOf_71 : decode cX4_worthOf 71 = .ok (.lmul, 1) := by decide +kernel
theorem dX4_worthOf_72 : decode cX4_worthOf 72 = .ok (.iload 5, 2) := by decide +kernel
theorem dX4_worthOf_74 : decode cX4_worthOf 74 = .ok (.i2l, 1) := by decide +kernel
theorem dX4_worthOf_75 : decode cX4_worthOf 75 = .ok (.ladd, 1) := by decide +kernel
theorem dX4_worthOf_76 : decode cX4_worthOf 76 = .ok (.lstore 9, 2) := by decide +kernel
theorem dX4_worthOf_78 : decode cX4_worthOf 78 = .ok (.lload 9, 2) := by decide +kernel
theorem dX4_worthOf_80 : decode cX4_worthOf 80 = .ok (.ldc2_w 60, 3) := by decide +kernel
theorem dX4_worthOf_83 : decode cX4_worthOf 83 = .ok (.lmul, 1) := by decide +kernel
theorem dX4_worthOf_84 : decode cX4_worthOf 84 = .ok (.bipush 53, 2) := by decide +kernel
theorem dX4_worthOf_86 : decode cX4_worthOf 86 = .ok (.lushr, 1) := by decide +kernel
theorem dX4_worthOf_87 : decode cX4_worthOf 87 = .ok (.l2i, 1) := by decide +kernel
theorem dX4_worthOf_88 : decode cX4_worthOf 88 = .ok (.istore 11, 2) := by decide +kernel
theorem dX4_worthOf_90 : decode cX4_worthOf 90 = .ok (.iload 11, 2) := by decide +kernel
theorem dX4_worthOf_92 : decode cX4_worthOf 92 = .ok (.ifCond .lt 13, 3) := by decide +kernel
theorem dX4_worthOf_95 : decode cX4_worthOf 95 = .ok (.iload 11, 2) := by decide +kernel
theorem dX4_worthOf_97 : decode cX4_worthOf 97 = .ok (.aload_n 0, 1) := by decide +kernel
theorem dX4_worthOf_98 : decode cX4_worthOf 98 = .ok (.getfield 26, 3) := by decide +kernel
theorem dX4_worthOf_101 : decode cX4_worthOf 101 = .ok (.arraylength, 1) := by decide +kernel
theorem dX4_worthOf_102 : decode cX4_worthOf 102 = .ok (.if_icmp .lt 6, 3) := by decide +kernel
theorem dX4_worthOf_105 : decode cX4_worthOf 105 = .ok (.bipush (-9), 2) := by decide +kernel
theorem dX4_worthOf_107 : decode cX4_worthOf 107 = .ok (.ireturn, 1) := by decide +kernel
theorem dX4_worthOf_108 : decode cX4_worthOf 108 = .ok (.aload_n 0, 1) := by decide +kernel
theorem dX4_worthOf_109 : decode cX4_worthOf 109 = .ok (.getfield 26, 3) := by decide +kernel
theorem dX4_worthOf_112 : decode cX4_worthOf 112 = .ok (.iload 11, 2) := by decide +kernel
theorem dX4_worthOf_114 : decode cX4_worthOf 114 = .ok (.laload, 1) := by decide +kernel
theorem dX4_worthOf_115 : decode cX4_worthOf 115 = .ok (.iconst 5, 1) := by decide +kernel
theorem dX4_worthOf_116 : decode cX4_worthOf 116 = .ok (.lshr, 1) := by decide +kernel
theorem dX4_worthOf_117 : decode cX4_worthOf 117 = .ok (.lload 9, 2) := by decide +kernel
theorem dX4_worthOf_119 : decode cX4_worthOf 119 = .ok (.lcmp, 1) := by decide +kernel
theorem dX4_worthOf_120 : decode cX4_worthOf 120 = .ok (.ifCond .ne 15, 3) := by decide +kernel
theorem dX4_worthOf_123 : decode cX4_worthOf 123 = .ok (.aload_n 0, 1) := by decide +kernel
theorem dX4_worthOf_124 : decode cX4_worthOf 124 = .ok (.getfield 26, 3) := by decide +kernel
theorem dX4_worthOf_127 : decode cX4_worthOf 127 = .ok (.iload 11, 2) := by decide +kernel
theorem dX4_worthOf_129 : decode cX4_worthOf 129 = .ok (.laload, 1) := by decide +kernel
theorem dX4_worthOf_130 : decode cX4_worthOf 130 = .ok (.lconst 0, 1) := by decide +kernel
theorem dX4_worthOf_131 : decode cX4_worthOf 131 = .ok (.lcmp, 1) := by decide +kernel
theorem dX4_worthOf_132 : decode cX4_worthOf 132 = .ok (.ifCond .ne 88, 3) := by decide +kernel
theorem dX4_worthOf_135 : decode cX4_worthOf 135 = .ok (.aload_n 0, 1) := by decide +kernel
theorem dX4_worthOf_136 : decode cX4_worthOf 136 = .ok (.getfield 20, 3) := by decide +kernel
theorem dX4_worthOf_139 : decode cX4_worthOf 139 = .ok (.iconst 0, 1) := by decide +kernel
theorem dX4_worthOf_140 : decode cX4_worthOf 140 = .ok (.iload_n 1, 1) := by decide +kernel
theorem dX4_worthOf_141 : decode cX4_worthOf 141 = .ok (.invokestatic 46, 3) := by decide +kernel
theorem dX4_worthOf_144 : decode cX4_worthOf 144 = .ok (.aload_n 0, 1) := by decide +kernel
theorem dX4_worthOf_145 : decode cX4_worthOf 145 = .ok (.getfield 20, 3) := by decide +kernel
theorem dX4_worthOf_148 : decode cX4_worthOf 148 = .ok (.iconst 1, 1) := by decide +kernel
theorem dX4_worthOf_149 : decode cX4_worthOf 149 = .ok (.iload_n 2, 1) := by decide +kernel
theorem dX4_worthOf_150 : decode cX4_worthOf 150 = .ok (.invokestatic 46, 3) := by decide +kernel
theorem dX4_worthOf_153 : decode cX4_worthOf 153 = .ok (.aload_n 0, 1) := by decide +kernel
theorem dX4_worthOf_154 : decode cX4_worthOf 154 = .ok (.getfield 20, 3) := by decide +kernel
theorem dX4_worthOf_157 : decode cX4_worthOf 157 = .ok (.iconst 2, 1) := by decide +kernel
theorem dX4_worthOf_158 : decode cX4_worthOf 158 = .ok (.iload_n 3, 1) := by decide +kernel
theorem dX4_worthOf_159 : decode cX4_worthOf 159 = .ok (.invokestatic 46, 3) := by decide +kernel
theorem dX4_worthOf_162 : decode cX4_worthOf 162 = .ok (.aload_n 0, 1) := by decide +kernel
theorem dX4_worthOf_163 : decode cX4_worthOf 163 = .ok (.getfield 20, 3) := by decide +kernel
theorem dX4_worthOf_166 : decode cX4_worthOf 166 = .ok (.iconst 3, 1) := by decide +kernel
theorem dX4_worthOf_167 : decode cX4_worthOf 167 = .ok (.iload 4, 2) := by decide +kernel
theorem dX4_worthOf_169 : decode cX4_worthOf 169 = .ok (.invokestatic 46, 3) := by decide +kernel
theorem dX4_worthOf_172 : decode cX4_worthOf 172 = .ok (.aload_n 0, 1) := by decide +kernel
theorem dX4_worthOf_173 : decode cX4_worthOf 173 = .ok (.getfield 20, 3) := by decide +kernel
theorem dX4_worthOf_176 : decode cX4_worthOf 176 = .ok (.iconst 4, 1) := by decide +kernel
theorem dX4_worthOf_177 : decode cX4_worthOf 177 = .ok (.iload 5, 2) := by decide +kernel
theorem dX4_worthOf_179 : decode cX4_worthOf 179 = .ok (.invokestatic 46, 3) := by decide +kernel
theorem dX4_worthOf_182 : decode cX4_worthOf 182 = .ok (.aload_n 0, 1) := by decide +kernel
theorem dX4_worthOf_183 : decode cX4_worthOf 183 = .ok (.getfield 20, 3) := by decide +kernel
theorem dX4_worthOf_186 : decode cX4_worthOf 186 = .ok (.iconst 5, 1) := by decide +kernel
theorem dX4_worthOf_187 : decode cX4_worthOf 187 = .ok (.iload 6, 2) := by decide +kernel
theorem dX4_worthOf_189 : decode cX4_worthOf 189 = .ok (.invokestatic 46, 3) := by decide +kernel
theorem dX4_worthOf_192 : decode cX4_worthOf 192 = .ok (.aload_n 0, 1) := by decide +kernel
theorem dX4_worthOf_193 : decode cX4_worthOf 193 = .ok (.getfield 26, 3) := by decide +kernel
theorem dX4_worthOf_196 : decode cX4_worthOf 196 = .ok (.iload 11, 2) := by decide +kernel
theorem dX4_worthOf_198 : decode cX4_worthOf 198 = .ok (.lload 9, 2) := by decide +kernel
theorem dX4_worthOf_200 : decode cX4_worthOf 200 = .ok (.iconst 5, 1) := by decide +kernel
theorem dX4_worthOf_201 : decode cX4_worthOf 201 = .ok (.lshl, 1) := by decide +kernel
theorem dX4_worthOf_202 : decode cX4_worthOf 202 = .ok (.bipush (-9), 2) := by decide +kernel
theorem dX4_worthOf_204 : decode cX4_worthOf 204 = .ok (.aload_n 0, 1) := by decide +kernel
theorem dX4_worthOf_205 : decode cX4_worthOf 205 = .ok (.invokevirtual 62, 3) := by decide +kernel
theorem dX4_worthOf_208 : decode cX4_worthOf 208 = .ok (.bipush 20, 2) := by decide +kernel
theorem dX4_worthOf_210 : decode cX4_worthOf 210 = .ok (.invokestatic 50, 3) := by decide +kernel
theorem dX4_worthOf_213 : decode cX4_worthOf 213 = .ok (.i2l, 1) := by decide +kernel
theorem dX4_worthOf_214 : decode cX4_worthOf 214 = .ok (.ladd, 1) := by decide +kernel
theorem dX4_worthOf_215 : decode cX4_worthOf 215 = .ok (.ldc2_w 54, 3) := by decide +kernel
theorem dX4_worthOf_218 : decode cX4_worthOf 218 = .ok (.ladd, 1) := by decide +kernel
theorem dX4_worthOf_219 : decode cX4_worthOf 219 = .ok (.lastore, 1) := by decide +kernel
theorem dX4_worthOf_220 : decode cX4_worthOf 220 = .ok (.aload_n 0, 1) := by decide +kernel
theorem dX4_worthOf_221 : decode cX4_worthOf 221 = .ok (.getfield 26, 3) := by decide +kernel
theorem dX4_worthOf_224 : decode cX4_worthOf 224 = .ok (.iload 11, 2) := by decide +kernel
theorem dX4_worthOf_226 : decode cX4_worthOf 226 = .ok (.laload, 1) := by decide +kernel
theorem dX4_worthOf_227 : decode cX4_worthOf 227 = .ok (.ldc2_w 66, 3) := by decide +kernel
theorem dX4_worthOf_230 : decode cX4_worthOf 230 = .ok (.land, 1) := by decide +kernel
theorem dX4_worthOf_231 : decode cX4_worthOf 231 = .ok (.l2i, 1) := by decide +kernel
theorem dX4_worthOf_232 : decode cX4_worthOf 232 = .ok (.bipush 10, 2) := by decide +kernel
theorem dX4_worthOf_234 : decode cX4_worthOf 234 = .ok (.isub, 1) := by decide +kernel
theorem dX4_worthOf_235 : decode cX4_worthOf 235 = .ok (.ireturn, 1) := by decide +kernel
def X4_worthOf_220 (n : Nat) (x11 : Int32) (h : Mm) : Option (Int32 × Mm) := (if inB x11 (aln 25) then (some ((((h.2 25 x11.toNatClampNeg) &&& (31 : Int64)).toInt32 - (10 : Int32)), h)) else none)
set_option maxRecDepth 100000 in
set_option maxHeartbeats 4000000 in
theorem v_X4_worthOf_220 {X : WX} {G : GX} {o : Mm} {n : Nat} {rv : Int32} {hz : Mm} {x11 : Int32} {h : Mm} (hF : X4_worthOf_220 n x11 h = some (rv, hz)) : V X G RX4 cX4_worthOf 12 (some .int) 3 0 0 (QR X G true o (some (.int rv)) hz) true o 220 [(0, .ref (xa X 16)), (11, .int x11)] [] h := by
  unfold X4_worthOf_220 at hF
  refine V.aload_n 0 dX4_worthOf_220 rfl rfl ?_
  refine V.getR (v := 25) fl_X4_26 sh_16 rfl fx_16_4 (by decide) dX4_worthOf_221 ?_
  refine V.iload 1 dX4_worthOf_224 rfl ?_
  obtain ⟨hk, hF⟩ := ck hF
  refine V.lald io_25 hk dX4_worthOf_226 ?_
  refine V.ldc2 (v := 31) dX4_worthOf_227 kc_X4_66 ?_
  refine V.land dX4_worthOf_230 ?_
  refine V.l2i dX4_worthOf_231 ?_
  refine V.bipush (v := 10) dX4_worthOf_232 (by decide) ?_
  refine V.isub dX4_worthOf_234 ?_
  cases hF
  exact V.iret dX4_worthOf_235
def X4_worthOf_135 (n : Nat) (x1 : Int32) (x2 : Int32) (x3 : Int32) (x4 : Int32) (x5 : Int32) (x6 : Int32) (x9 : Int64) (x11 : Int32) (h : Mm) : Option (Int32 × Mm) := (bd (X11_put 23 (0 : Int32) x1 h) (fun _ h53 => (bd (X11_put 23 (1 : Int32) x2 h53) (fun _ h56 => (bd (X11_put 23 (2 : Int32) x3 h56) (fun _ h59 => (bd (X11_put 23 (3 : Int32) x4 h59) (fun _ h62 => (bd (X11_put 23 (4 : Int32) x5 h62) (fun _ h65 => (bd (X11_put 23 (5 : Int32) x6 h65) (fun _ h68 => (bd (X4_worthByLaw n h68) (fun r69 h71 => (bp (X11_within (-9 : Int32) r69 (20 : Int32) h71) (fun r72 => (if inB x11 (aln 25) then (X4_worthOf_220 n x11 (wL h71 25 x11.toNatClampNeg (((x9 <<< ((5 : Int32).toInt64 &&& 63)) + r72.toInt64) + (10 : Int64)))) else none)))))))))))))))))
set_option maxRecDepth 100000 in
set_option maxHeartbeats 4000000 in
theorem v_X4_worthOf_135 {X : WX} {G : GX} {o : Mm} {n : Nat} {rv : Int32} {hz : Mm} {x1 : Int32} {x2 : Int32} {x3 : Int32} {x4 : Int32} {x5 : Int32} {x6 : Int32} {x9 : Int64} {x11 : Int32} {h : Mm} (hF : X4_worthOf_135 n x1 x2 x3 x4 x5 x6 x9 x11 h = some (rv, hz)) : V X G RX4 cX4_worthOf 12 (some .int) 3 0 0 (QR X G true o (some (.int rv)) hz) true o 135 [(0, .ref (xa X 16)), (1, .int x1), (2, .int x2), (3, .int x3), (4, .int x4), (5, .int x5), (6, .int x6), (9, .long x9), (11, .int x11)] [] h := by
  unfold X4_worthOf_135 at hF
  refine V.aload_n 0 dX4_worthOf_135 rfl rfl ?_
  refine V.getR (v := 23) fl_X4_20 sh_16 rfl fx_16_2 (by decide) dX4_worthOf_136 ?_
  refine V.iconst (v := 0) dX4_worthOf_139 rfl ?_
  refine V.iload_n 1 dX4_worthOf_140 rfl rfl ?_
  obtain ⟨r51, h53, hc52, hF⟩ := bd_s hF
  refine V.callNv mf_X11_put ml_X4_46 (s_X11_put io_23 hc52) (by decide) rfl rfl (Nat.le_of_ble_eq_true rfl) dX4_worthOf_141 ?_
  refine V.aload_n 0 dX4_worthOf_144 rfl rfl ?_
  refine V.getR (v := 23) fl_X4_20 sh_16 rfl fx_16_2 (by decide) dX4_worthOf_145 ?_
  refine V.iconst (v := 1) dX4_worthOf_148 rfl ?_
  refine V.iload_n 2 dX4_worthOf_149 rfl rfl ?_
  obtain ⟨r54, h56, hc55, hF⟩ := bd_s hF
  refine V.callNv mf_X11_put ml_X4_46 (s_X11_put io_23 hc55) (by decide) rfl rfl (Nat.le_of_ble_eq_true rfl) dX4_worthOf_150 ?_
  refine V.aload_n 0 dX4_worthOf_153 rfl rfl ?_
  refine V.getR (v := 23) fl_X4_20 sh_16 rfl fx_16_2 (by decide) dX4_worthOf_154 ?_
  refine V.iconst (v := 2) dX4_worthOf_157 rfl ?_
  refine V.iload_n 3 dX4_worthOf_158 rfl rfl ?_
  obtain ⟨r57, h59, hc58, hF⟩ := bd_s hF
  refine V.callNv mf_X11_put ml_X4_46 (s_X11_put io_23 hc58) (by decide) rfl rfl (Nat.le_of_ble_eq_true rfl) dX4_worthOf_159 ?_
  refine V.aload_n 0 dX4_worthOf_162 rfl rfl ?_
  refine V.getR (v := 23) fl_X4_20 sh_16 rfl fx_16_2 (by decide) dX4_worthOf_163 ?_
  refine V.iconst (v := 3) dX4_worthOf_166 rfl ?_
  refine V.iload 4 dX4_worthOf_167 rfl ?_
  obtain ⟨r60, h62, hc61, hF⟩ := bd_s hF
  refine V.callNv mf_X11_put ml_X4_46 (s_X11_put io_23 hc61) (by decide) rfl rfl (Nat.le_of_ble_eq_true rfl) dX4_worthOf_169 ?_
  refine V.aload_n 0 dX4_worthOf_172 rfl rfl ?_
  refine V.getR (v := 23) fl_X4_20 sh_16 rfl fx_16_2 (by decide) dX4_worthOf_173 ?_
  refine V.iconst (v := 4) dX4_worthOf_176 rfl ?_
  refine V.iload 5 dX4_worthOf_177 rfl ?_
  obtain ⟨r63, h65, hc64, hF⟩ := bd_s hF
  refine V.callNv mf_X11_put ml_X4_46 (s_X11_put io_23 hc64) (by decide) rfl rfl (Nat.le_of_ble_eq_true rfl) dX4_worthOf_179 ?_
  refine V.aload_n 0 dX4_worthOf_182 rfl rfl ?_
  refine V.getR (v := 23) fl_X4_20 sh_16 rfl fx_16_2 (by decide) dX4_worthOf_183 ?_
  refine V.iconst (v := 5) dX4_worthOf_186 rfl ?_
  refine V.iload 6 dX4_worthOf_187 rfl ?_
  obtain ⟨r66, h68, hc67, hF⟩ := bd_s hF
  refine V.callNv mf_X11_put ml_X4_46 (s_X11_put io_23 hc67) (by decide) rfl rfl (Nat.le_of_ble_eq_true rfl) dX4_worthOf_189 ?_
  refine V.aload_n 0 dX4_worthOf_192 rfl rfl ?_
  refine V.getR (v := 25) fl_X4_26 sh_16 rfl fx_16_4 (by decide) dX4_worthOf_193 ?_
  refine V.iload 8 dX4_worthOf_196 rfl ?_
  refine V.lload 7 dX4_worthOf_198 rfl ?_
  refine V.iconst (v := 5) dX4_worthOf_200 rfl ?_
  refine V.lshl dX4_worthOf_201 ?_
  refine V.bipush (v := -9) dX4_worthOf_202 (by decide) ?_
  refine V.aload_n 0 dX4_worthOf_204 rfl rfl ?_
  obtain ⟨r69, h71, hc70, hF⟩ := bd_s hF
  refine V.callVi mf_X4_worthByLaw ml_X4_62 sh_16 (s_X4_worthByLaw hc70) (by decide) rfl rfl (Nat.le_of_ble_eq_true rfl) dX4_worthOf_205 ?_
  refine V.bipush (v := 20) dX4_worthOf_208 (by decide) ?_
  obtain ⟨r72, hc73, hF⟩ := bp_s hF
  refine V.callNi mf_X11_within ml_X4_50 (s_X11_within hc73) (by decide) rfl rfl (Nat.le_of_ble_eq_true rfl) dX4_worthOf_210 ?_
  refine V.i2l dX4_worthOf_213 ?_
  refine V.ladd dX4_worthOf_214 ?_
  refine V.ldc2 (v := 10) dX4_worthOf_215 kc_X4_54 ?_
  refine V.ladd dX4_worthOf_218 ?_
  obtain ⟨hk, hF⟩ := ck hF
  refine V.last io_25 hk dX4_worthOf_219 ?_
  exact V.sub [0, 8] rfl (v_X4_worthOf_220 hF)
def X4_worthOf (n : Nat) (x1 : Int32) (x2 : Int32) (x3 : Int32) (x4 : Int32) (x5 : Int32) (x6 : Int32) (h : Mm) : Option (Int32 × Mm) := (if 0 ≤ (h.1 16 6) then (if ((((((((((((((((h.1 16 6).toInt64 * (10 : Int64)) + x1.toInt64) * (10 : Int64)) + x2.toInt64) * (64 : Int64)) + x6.toInt64) * (10 : Int64)) + x3.toInt64) * (10 : Int64)) + x4.toInt64) * (16384 : Int64)) + x5.toInt64) * (-7046029254386353131 : Int64)).toUInt64 >>> ((53 : Int32).toInt64.toUInt64 &&& Int64.toUInt64 63)).toInt64).toInt32 < 0 then (some ((-9 : Int32), h)) else (if ((((((((((((((((h.1 16 6).toInt64 * (10 : Int64)) + x1.toInt64) * (10 : Int64)) + x2.toInt64) * (64 : Int64)) + x6.toInt64) * (10 : Int64)) + x3.toInt64) * (10 : Int64)) + x4.toInt64) * (16384 : Int64)) + x5.toInt64) * (-7046029254386353131 : Int64)).toUInt64 >>> ((53 : Int32).toInt64.toUInt64 &&& Int64.toUInt64 63)).toInt64).toInt32 < (2048 : Int32) then (if inB ((((((((((((((((h.1 16 6).toInt64 * (10 : Int64)) + x1.toInt64) * (10 : Int64)) + x2.toInt64) * (64 : Int64)) + x6.toInt64) * (10 : Int64)) + x3.toInt64) * (10 : Int64)) + x4.toInt64) * (16384 : Int64)) + x5.toInt64) * (-7046029254386353131 : Int64)).toUInt64 >>> ((53 : Int32).toInt64.toUInt64 &&& Int64.toUInt64 63)).toInt64).toInt32 (aln 25) then (if (lg_cmp ((h.2 25 ((((((((((((((((h.1 16 6).toInt64 * (10 : Int64)) + x1.toInt64) * (10 : Int64)) + x2.toInt64) * (64 : Int64)) + x6.toInt64) * (10 : Int64)) + x3.toInt64) * (10 : Int64)) + x4.toInt64) * (16384 : Int64)) + x5.toInt64) * (-7046029254386353131 : Int64)).toUInt64 >>> ((53 : Int32).toInt64.toUInt64 &&& Int64.toUInt64 63)).toInt64).toInt32.toNatClampNeg) >>> ((5 : Int32).toInt64 &&& 63)) (((((((((((((h.1 16 6).toInt64 * (10 : Int64)) + x1.toInt64) * (10 : Int64)) + x2.toInt64) * (64 : Int64)) + x6.toInt64) * (10 : Int64)) + x3.toInt64) * (10 : Int64)) + x4.toInt64) * (16384 : Int64)) + x5.toInt64)) = 0 then (if inB ((((((((((((((((h.1 16 6).toInt64 * (10 : Int64)) + x1.toInt64) * (10 : Int64)) + x2.toInt64) * (64 : Int64)) + x6.toInt64) * (10 : Int64)) + x3.toInt64) * (10 : Int64)) + x4.toInt64) * (16384 : Int64)) + x5.toInt64) * (-7046029254386353131 : Int64)).toUInt64 >>> ((53 : Int32).toInt64.toUInt64 &&& Int64.toUInt64 63)).toInt64).toInt32 (aln 25) then (if (lg_cmp (h.2 25 ((((((((((((((((h.1 16 6).toInt64 * (10 : Int64)) + x1.toInt64) * (10 : Int64)) + x2.toInt64) * (64 : Int64)) + x6.toInt64) * (10 : Int64)) + x3.toInt64) * (10 : Int64)) + x4.toInt64) * (16384 : Int64)) + x5.toInt64) * (-7046029254386353131 : Int64)).toUInt64 >>> ((53 : Int32).toInt64.toUInt64 &&& Int64.toUInt64 63)).toInt64).toInt32.toNatClampNeg) (0 : Int64)) = 0 then (X4_worthOf_135 n x1 x2 x3 x4 x5 x6 (((((((((((((h.1 16 6).toInt64 * (10 : Int64)) + x1.toInt64) * (10 : Int64)) + x2.toInt64) * (64 : Int64)) + x6.toInt64) * (10 : Int64)) + x3.toInt64) * (10 : Int64)) + x4.toInt64) * (16384 : Int64)) + x5.toInt64) (((((((((((((((((h.1 16 6).toInt64 * (10 : Int64)) + x1.toInt64) * (10 : Int64)) + x2.toInt64) * (64 : Int64)) + x6.toInt64) * (10 : Int64)) + x3.toInt64) * (10 : Int64)) + x4.toInt64) * (16384 : Int64)) + x5.toInt64) * (-7046029254386353131 : Int64)).toUInt64 >>> ((53 : Int32).toInt64.toUInt64 &&& Int64.toUInt64 63)).toInt64).toInt32) h) else (X4_worthOf_220 n (((((((((((((((((h.1 16 6).toInt64 * (10 : Int64)) + x1.toInt64) * (10 : Int64)) + x2.toInt64) * (64 : Int64)) + x6.toInt64) * (10 : Int64)) + x3.toInt64) * (10 : Int64)) + x4.toInt64) * (16384 : Int64)) + x5.toInt64) * (-7046029254386353131 : Int64)).toUInt64 >>> ((53 : Int32).toInt64.toUInt64 &&& Int64.toUInt64 63)).toInt64).toInt32) h)) else none) else (X4_worthOf_135 n x1 x2 x3 x4 x5 x6 (((((((((((((h.1 16 6).toInt64 * (10 : Int64)) + x1.toInt64) * (10 : Int64)) + x2.toInt64) * (64 : Int64)) + x6.toInt64) * (10 : Int64)) + x3.toInt64) * (10 : Int64)) + x4.toInt64) * (16384 : Int64)) + x5.toInt64) (((((((((((((((((h.1 16 6).toInt64 * (10 : Int64)) + x1.toInt64) * (10 : Int64)) + x2.toInt64) * (64 : Int64)) + x6.toInt64) * (10 : Int64)) + x3.toInt64) * (10 : Int64)) + x4.toInt64) * (16384 : Int64)) + x5.toInt64) * (-7046029254386353131 : Int64)).toUInt64 >>> ((53 : Int32).toInt64.toUInt64 &&& Int64.toUInt64 63)).toInt64).toInt32) h)) else none) else (some ((-9 : Int32), h)))) else (bp (X11_within (-9 : Int32) ((x1 + (x2 / (3 : Int32))) - x3) (20 : Int32) h) (fun r74 => (some (r74, h)))))
set_option maxRecDepth 100000 in
set_option maxHeartbeats 4000000 in
theorem s_X4_worthOf {X : WX} {o : Mm} {n : Nat} {x1 : Int32} {x2 : Int32} {x3 : Int32} {x4 : Int32} {x5 : Int32} {x6 : Int32} {rv : Int32} {hz : Mm} {h : Mm} (hF : X4_worthOf n x1 x2 x3 x4 x5 x6 h = some (rv, hz)) : Sat X yX4_worthOf cX4_worthOf 12 (some .int) 3 [.ref (xa X 16), .int x1, .int x2, .int x3, .int x4, .int x5, .int x6] true o h (some (.int rv)) hz := by
  unfold X4_worthOf at hF
  refine Sat.mk (own := RX4) rfl (by decide +kernel) (Nat.le_of_ble_eq_true rfl) (fun G => ?_)
  refine V.sub (lv2 := [(0, _), (1, _), (2, _), (3, _), (4, _), (5, _), (6, _)]) [0, 1, 2, 3, 4, 5, 6] rfl ?_
  refine V.aload_n 0 dX4_worthOf_0 rfl rfl ?_
  refine V.getI fl_X4_30 sh_16 rfl km_16 dX4_worthOf_1 ?_
  refine V.if_ge (tgt := 22) dX4_worthOf_4 rfl (fun c => ?_) (fun c => ?_)
  · replace hF := ip c hF
    refine V.aload_n 0 dX4_worthOf_22 rfl rfl ?_
    refine V.getI fl_X4_30 sh_16 rfl km_16 dX4_worthOf_23 ?_
    refine V.i2l dX4_worthOf_26 ?_
    refine V.ldc2 (v := 10) dX4_worthOf_27 kc_X4_54 ?_
    refine V.lmul dX4_worthOf_30 ?_
    refine V.iload_n 1 dX4_worthOf_31 rfl rfl ?_
    refine V.i2l dX4_worthOf_32 ?_
    refine V.ladd dX4_worthOf_33 ?_
    refine V.ldc2 (v := 10) dX4_worthOf_34 kc_X4_54 ?_
    refine V.lmul dX4_worthOf_37 ?_
    refine V.iload_n 2 dX4_worthOf_38 rfl rfl ?_
    refine V.i2l dX4_worthOf_39 ?_
    refine V.ladd dX4_worthOf_40 ?_
    refine V.ldc2 (v := 64) dX4_worthOf_41 kc_X4_56 ?_
    refine V.lmul dX4_worthOf_44 ?_
    refine V.iload 6 dX4_worthOf_45 rfl ?_
    refine V.i2l dX4_worthOf_47 ?_
    refine V.ladd dX4_worthOf_48 ?_
    refine V.lstore [(7, _), (0, _), (1, _), (2, _), (3, _), (4, _), (5, _), (6, _)] dX4_worthOf_49 (by decide) rfl ?_
    refine V.lload 0 dX4_worthOf_51 rfl ?_
    refine V.ldc2 (v := 10) dX4_worthOf_53 kc_X4_54 ?_
    refine V.lmul dX4_worthOf_56 ?_
    refine V.iload_n 4 dX4_worthOf_57 rfl rfl ?_
    refine V.i2l dX4_worthOf_58 ?_
    refine V.ladd dX4_worthOf_59 ?_
    refine V.ldc2 (v := 10) dX4_worthOf_60 kc_X4_54 ?_
    refine V.lmul dX4_worthOf_63 ?_
    refine V.iload 5 dX4_worthOf_64 rfl ?_
    refine V.i2l dX4_worthOf_66 ?_
    refine V.ladd dX4_worthOf_67 ?_
    refine V.ldc2 (v := 16384) dX4_worthOf_68 kc_X4_58 ?_
    refine V.lmul dX4_worthOf_71 ?_
    refine V.iload 6 dX4_worthOf_72 rfl ?_
    refine V.i2l dX4_worthOf_74 ?_
    refine V.ladd dX4_worthOf_75 ?_
    refine V.lstore [(9, _), (7, _), (0, _), (1, _), (2, _), (3, _), (4, _), (5, _), (6, _)] dX4_worthOf_76 (by decide) rfl ?_
    refine V.lload 0 dX4_worthOf_78 rfl ?_
    refine V.ldc2 (v := -7046029254386353131) dX4_worthOf_80 kc_X4_60 ?_
    refine V.lmul dX4_worthOf_83 ?_
    refine V.bipush (v := 53) dX4_worthOf_84 (by decide) ?_
    refine V.lushr dX4_worthOf_86 ?_
    refine V.l2i dX4_worthOf_87 ?_
    refine V.istore [(11, _), (9, _), (7, _), (0, _), (1, _), (2, _), (3, _), (4, _), (5, _), (6, _)] dX4_worthOf_88 (by decide) rfl ?_
    refine V.iload 0 dX4_worthOf_90 rfl ?_
    refine V.if_lt (tgt := 105) dX4_worthOf_92 rfl (fun c => ?_) (fun c => ?_)
    · replace hF := ip c hF
      refine V.bipush (v := -9) dX4_worthOf_105 (by decide) ?_
      cases hF
      exact V.iret dX4_worthOf_107
    · replace hF := iq c hF
      refine V.iload 0 dX4_worthOf_95 rfl ?_
      refine V.aload_n 3 dX4_worthOf_97 rfl rfl ?_
      refine V.getR (v := 25) fl_X4_26 sh_16 rfl fx_16_4 (by decide) dX4_worthOf_98 ?_
      refine V.alen (v := 2048) sh_25 (by decide) rfl dX4_worthOf_101 ?_
      refine V.icmp_lt (tgt := 108) dX4_worthOf_102 rfl (fun c => ?_) (fun c => ?_)
      · replace hF := ip c hF
        refine V.aload_n 3 dX4_worthOf_108 rfl rfl ?_
        refine V.getR (v := 25) fl_X4_26 sh_16 rfl fx_16_4 (by decide) dX4_worthOf_109 ?_
        refine V.iload 0 dX4_worthOf_112 rfl ?_
        obtain ⟨hk, hF⟩ := ck hF
        refine V.lald io_25 hk dX4_worthOf_114 ?_
        refine V.iconst (v := 5) dX4_worthOf_115 rfl ?_
        refine V.lshr dX4_worthOf_116 ?_
        refine V.lload 1 dX4_worthOf_117 rfl ?_
        refine V.lcmp dX4_worthOf_119 ?_
        refine V.if_ne (tgt := 135) dX4_worthOf_120 rfl (fun c => ?_) (fun c => ?_)
        · replace hF := iq c hF
          exact V.sub [3, 4, 5, 6, 7, 8, 9, 1, 0] rfl (v_X4_worthOf_135 hF)
        · replace hF := ip c hF
          refine V.aload_n 3 dX4_worthOf_123 rfl rfl ?_
          refine V.getR (v := 25) fl_X4_26 sh_16 rfl fx_16_4 (by decide) dX4_worthOf_124 ?_
          refine V.iload 0 dX4_worthOf_127 rfl ?_
          obtain ⟨hk, hF⟩ := ck hF
          refine V.lald io_25 hk dX4_worthOf_129 ?_
          refine V.lconst (v := 0) dX4_worthOf_130 rfl ?_
          refine V.lcmp dX4_worthOf_131 ?_
          refine V.if_ne (tgt := 220) dX4_worthOf_132 rfl (fun c => ?_) (fun c => ?_)
          · replace hF := iq c hF
            exact V.sub [3, 0] rfl (v_X4_worthOf_220 hF)
          · replace hF := ip c hF
            exact V.sub [3, 4, 5, 6, 7, 8, 9, 1, 0] rfl (v_X4_worthOf_135 hF)
      · replace hF := iq c hF
        refine V.bipush (v := -9) dX4_worthOf_105 (by decide) ?_
        cases hF
        exact V.iret dX4_worthOf_107
  · replace hF := iq c hF
    refine V.bipush (v := -9) dX4_worthOf_7 (by decide) ?_
    refine V.iload_n 1 dX4_worthOf_9 rfl rfl ?_
    refine V.iload_n 2 dX4_worthOf_10 rfl rfl ?_
    refine V.iconst (v := 3) dX4_worthOf_11 rfl ?_
    refine V.idiv dX4_worthOf_12 (by decide) ?_
    refine V.iadd dX4_worthOf_13 ?_
    refine V.iload_n 3 dX4_worthOf_14 rfl rfl ?_
    refine V.isub dX4_worthOf_15 ?_
    refine V.bipush (v := 20) dX4_worthOf_16 (by decide) ?_
    obtain ⟨r74, hc75, hF⟩ := bp_s hF
    refine V.callNi mf_X11_within ml_X4_50 (s_X11_within hc75) (by decide) rfl rfl (Nat.le_of_ble_eq_true rfl) dX4_worthOf_18 ?_
    cases hF
    exact V.iret dX4_worthOf_21
/-! MonsterCot.heldCalm -/
theorem dX11_heldCalm_0 : decode cX11_heldCalm 0 = .ok (.iload_n 0, 1) := by decide +kernel
theorem dX11_heldCalm_1 : decode cX11_heldCalm 1 = .ok (.ifCond .ge 7, 3) := by decide +kernel
theorem dX11_heldCalm_4 : decode cX11_heldCalm 4 = .ok (.iconst 0, 1) := by decide +kernel
theorem dX11_heldCalm_5 : decode cX11_heldCalm 5 = .ok (.goto 15, 3) := by decide +kernel
theorem dX11_heldCalm_8 : decode cX11_heldCalm 8 = .ok (.iload_n 0, 1) := by decide +kernel
theorem dX11_heldCalm_9 : decode cX11_heldCalm 9 = .ok (.bipush 99, 2) := by decide +kernel
theorem dX11_heldCalm_11 : decode cX11_heldCalm 11 = .ok (.if_icmp .le 8, 3) := by decide +kernel
theorem dX11_heldCalm_14 : decode cX11_heldCalm 14 = .ok (.bipush 99, 2) := by decide +kernel
theorem dX11_heldCalm_16 : decode cX11_heldCalm 16 = .ok (.goto 4, 3) := by decide +kernel
theorem dX11_heldCalm_19 : decode cX11_heldCalm 19 = .ok (.iload_n 0, 1) := by decide +kernel
theorem dX11_heldCalm_20 : decode cX11_heldCalm 20 = .ok (.ireturn, 1) := by decide +kernel
def X11_heldCalm (x0 : Int32) (h : Mm) : Option Int32 := (if 0 ≤ x0 then (if x0 ≤ (99 : Int32) then (some x0) else (some (99 : Int32))) else (some (0 : Int32)))
set_option maxRecDepth 100000 in
set_option maxHeartbeats 4000000 in
theorem s_X11_heldCalm {X : WX} {o : Mm} {x0 : Int32} {rv : Int32} {h : Mm} (hF : X11_heldCalm x0 h = some rv) : Sat X yX11_heldCalm cX11_heldCalm 1 (some .int) 1 [.int x0] true o h (some (.int rv)) h := by
  unfold X11_heldCalm at hF
  refine Sat.mk (own := RX11) rfl (by decide +kernel) (Nat.le_of_ble_eq_true rfl) (fun G => ?_)
  refine V.sub (lv2 := [(0, _)]) [0] rfl ?_
  refine V.iload_n 0 dX11_heldCalm_0 rfl rfl ?_
  refine V.if_ge (tgt := 8) dX11_heldCalm_1 rfl (fun c => ?_) (fun c => ?_)
  · replace hF := ip c hF
    refine V.iload_n 0 dX11_heldCalm_8 rfl rfl ?_
    refine V.bipush (v := 99) dX11_heldCalm_9 (by decide) ?_
    refine V.icmp_le (tgt := 19) dX11_heldCalm_11 rfl (fun c => ?_) (fun c => ?_)
    · replace hF := ip c hF
      refine V.iload_n 0 dX11_heldCalm_19 rfl rfl ?_
      cases hF
      exact V.iret dX11_heldCalm_20
    · replace hF := iq c hF
      refine V.bipush (v := 99) dX11_heldCalm_14 (by decide) ?_
      refine V.goto (tgt := 20) dX11_heldCalm_16 rfl ?_
      cases hF
      exact V.iret dX11_heldCalm_20
  · replace hF := iq c hF
    refine V.iconst (v := 0) dX11_heldCalm_4 rfl ?_
    refine V.goto (tgt := 20) dX11_heldCalm_5 rfl ?_
    cases hF
    exact V.iret dX11_heldCalm_20
/-! MonsterCot$Ways.calmBehind -/
theorem dX9_calmBehind_0 : decode cX9_calmBehind 0 = .ok (.aload_n 0, 1) := by decide +kernel
theorem dX9_calmBehind_1 : decode cX9_calmBehind 1 = .ok (.getfield 9, 3) := by decide +kernel
theorem dX9_calmBehind_4 : decode cX9_calmBehind 4 = .ok (.iload_n 2, 1) := by decide +kernel
theorem dX9_calmBehind_5 : decode cX9_calmBehind 5 = .ok (.invokevirtual 42, 3) := by decide +kernel
theorem dX9_calmBehind_8 : decode cX9_calmBehind 8 = .ok (.istore 8, 2) := by decide +kernel
theorem dX9_calmBehind_10 : decode cX9_calmBehind 10 = .ok (.iload_n 1, 1) := by decide +kernel
theorem dX9_calmBehind_11 : decode cX9_calmBehind 11 = .ok (.istore 9, 2) := by decide +kernel
theorem dX9_calmBehind_13 : decode cX9_calmBehind 13 = .ok (.iconst 0, 1) := by decide +kernel
theorem dX9_calmBehind_14 : decode cX9_calmBehind 14 = .ok (.istore 10, 2) := by decide +kernel
theorem dX9_calmBehind_16 : decode cX9_calmBehind 16 = .ok (.iload 10, 2) := by decide +kernel
theorem dX9_calmBehind_18 : decode cX9_calmBehind 18 = .ok (.iload_n 3, 1) := by decide +kernel
theorem dX9_calmBehind_19 : decode cX9_calmBehind 19 = .ok (.if_icmp .ge 39, 3) := by decide +kernel
theorem dX9_calmBehind_22 : decode cX9_calmBehind 22 = .ok (.iload 9, 2) := by decide +kernel
theorem dX9_calmBehind_24 : decode cX9_calmBehind 24 = .ok (.aload_n 0, 1) := by decide +kernel
theorem dX9_calmBehind_25 : decode cX9_calmBehind 25 = .ok (.getfield 15, 3) := by decide +kernel
theorem dX9_calmBehind_28 : decode cX9_calmBehind 28 = .ok (.iload 8, 2) := by decide +kernel
theorem dX9_calmBehind_30 : decode cX9_calmBehind 30 = .ok (.iload 4, 2) := by decide +kernel
theorem dX9_calmBehind_32 : decode cX9_calmBehind 32 = .ok (.iload 5, 2) := by decide +kernel
theorem dX9_calmBehind_34 : decode cX9_calmBehind 34 = .ok (.iload 10, 2) := by decide +kernel
theorem dX9_calmBehind_36 : decode cX9_calmBehind 36 = .ok (.iload 6, 2) := by decide +kernel
theorem dX9_calmBehind_38 : decode cX9_calmBehind 38 = .ok (.iload 7, 2) := by decide +kernel
theorem dX9_calmBehind_40 : decode cX9_calmBehind 40 = .ok (.iload 10, 2) := by decide +kernel
theorem dX9_calmBehind_42 : decode cX9_calmBehind 42 = .ok (.iadd, 1) := by decide +kernel
theorem dX9_calmBehind_43 : decode cX9_calmBehind 43 = .ok (.invokevirtual 45, 3) := by decide +kernel
theorem dX9_calmBehind_46 : decode cX9_calmBehind 46 = .ok (.iadd, 1) := by decide +kernel
theorem dX9_calmBehind_47 : decode cX9_calmBehind 47 = .ok (.invokestatic 51, 3) := by decide +kernel
theorem dX9_calmBehind_50 : decode cX9_calmBehind 50 = .ok (.istore 9, 2) := by decide +kernel
theorem dX9_calmBehind_52 : decode cX9_calmBehind 52 = .ok (.iinc 10 1, 3) := by decide +kernel
theorem dX9_calmBehind_55 : decode cX9_calmBehind 55 = .ok (.goto (-39), 3) := by decide +kernel
theorem dX9_calmBehind_58 : decode cX9_calmBehind 58 = .ok (.iload 9, 2) := by decide +kernel
theorem dX9_calmBehind_60 : decode cX9_calmBehind 60 = .ok (.ireturn, 1) := by decide +kernel
def X9_calmBehind_16 (n : Nat) : Nat → Int32 → Int32 → Int32 → Int32 → Int32 → Int32 → Int32 → Int32 → Mm → Option (Int32 × Mm)
  | 0, _, _, _, _, _, _, _, _, _ => none
  | f + 1, x3, x4, x5, x6, x7, x8, x9, x10, h => (if x3 ≤ x10 then (some (x9, h)) else (bd (X4_worthOf n x8 x4 x5 x10 x6 (x7 + x10) h) (fun r15 h17 => (bp (X11_heldCalm (x9 + r15) h17) (fun r18 => ((X9_calmBehind_16 n f) x3 x4 x5 x6 x7 x8 r18 (x10 + (1)) h17))))))
set_option maxRecDepth 100000 in
set_option maxHeartbeats 4000000 in
theorem v_X9_calmBehind_16 {X : WX} {G : GX} {o : Mm} {n : Nat} {rv : Int32} {hz : Mm} : ∀ (f : Nat) (x3 : Int32) (x4 : Int32) (x5 : Int32) (x6 : Int32) (x7 : Int32) (x8 : Int32) (x9 : Int32) (x10 : Int32) (h : Mm), X9_calmBehind_16 n f x3 x4 x5 x6 x7 x8 x9 x10 h = some (rv, hz) → V X G RX9 cX9_calmBehind 11 (some .int) 4 0 0 (QR X G true o (some (.int rv)) hz) true o 16 [(0, .ref (xa X 26)), (3, .int x3), (4, .int x4), (5, .int x5), (6, .int x6), (7, .int x7), (8, .int x8), (9, .int x9), (10, .int x10)] [] h := by
  intro f
  induction f with
  | zero => intro x3 x4 x5 x6 x7 x8 x9 x10 h hF; exact nomatch (show (none : Option (Int32 × Mm)) = some (rv, hz) from hF)
  | succ f ih =>
    intro x3 x4 x5 x6 x7 x8 x9 x10 h hF
    unfold X9_calmBehind_16 at hF
    refine V.iload 8 dX9_calmBehind_16 rfl ?_
    refine V.iload_n 1 dX9_calmBehind_18 rfl rfl ?_
    refine V.icmp_ge (tgt := 58) dX9_calmBehind_19 rfl (fun c => ?_) (fun c => ?_)
    · replace hF := ip c hF
      refine V.iload 7 dX9_calmBehind_58 rfl ?_
      cases hF
      exact V.iret dX9_calmBehind_60
    · replace hF := iq c hF
      refine V.iload 7 dX9_calmBehind_22 rfl ?_
      refine V.aload_n 0 dX9_calmBehind_24 rfl rfl ?_
      refine V.getR (v := 16) fl_X9_15 sh_26 rfl fx_26_1 (by decide) dX9_calmBehind_25 ?_
      refine V.iload 6 dX9_calmBehind_28 rfl ?_
      refine V.iload 2 dX9_calmBehind_30 rfl ?_
      refine V.iload 3 dX9_calmBehind_32 rfl ?_
      refine V.iload 8 dX9_calmBehind_34 rfl ?_
      refine V.iload 4 dX9_calmBehind_36 rfl ?_
      refine V.iload 5 dX9_calmBehind_38 rfl ?_
      refine V.iload 8 dX9_calmBehind_40 rfl ?_
      refine V.iadd dX9_calmBehind_42 ?_
      obtain ⟨r15, h17, hc16, hF⟩ := bd_s hF
      refine V.callVi mf_X4_worthOf ml_X9_45 sh_16 (s_X4_worthOf hc16) (by decide) rfl rfl (Nat.le_of_ble_eq_true rfl) dX9_calmBehind_43 ?_
      refine V.iadd dX9_calmBehind_46 ?_
      obtain ⟨r18, hc19, hF⟩ := bp_s hF
      refine V.callNi mf_X11_heldCalm ml_X9_51 (s_X11_heldCalm hc19) (by decide) rfl rfl (Nat.le_of_ble_eq_true rfl) dX9_calmBehind_47 ?_
      refine V.istore [(9, _), (0, _), (3, _), (4, _), (5, _), (6, _), (7, _), (8, _), (10, _)] dX9_calmBehind_50 (by decide) rfl ?_
      refine V.iinc (v := (x10 + (1))) 8 [(10, _), (9, _), (0, _), (3, _), (4, _), (5, _), (6, _), (7, _), (8, _)] dX9_calmBehind_52 rfl rfl (by decide) rfl ?_
      refine V.goto (tgt := 16) dX9_calmBehind_55 rfl ?_
      exact V.sub [2, 3, 4, 5, 6, 7, 8, 1, 0] rfl (ih _ _ _ _ _ _ _ _ _ hF)
def X9_calmBehind (n : Nat) (x1 : Int32) (x2 : Int32) (x3 : Int32) (x4 : Int32) (x5 : Int32) (x6 : Int32) (x7 : Int32) (h : Mm) : Option (Int32 × Mm) := (bp (X1_calmingOf 13 x2 h) (fun r20 => (X9_calmBehind_16 n n x3 x4 x5 x6 x7 r20 x1 (0 : Int32) h)))
set_option maxRecDepth 100000 in
set_option maxHeartbeats 4000000 in
theorem s_X9_calmBehind {X : WX} {o : Mm} {n : Nat} {x1 : Int32} {x2 : Int32} {x3 : Int32} {x4 : Int32} {x5 : Int32} {x6 : Int32} {x7 : Int32} {rv : Int32} {hz : Mm} {h : Mm} (hF : X9_calmBehind n x1 x2 x3 x4 x5 x6 x7 h = some (rv, hz)) : Sat X yX9_calmBehind cX9_calmBehind 11 (some .int) 4 [.ref (xa X 26), .int x1, .int x2, .int x3, .int x4, .int x5, .int x6, .int x7] true o h (some (.int rv)) hz := by
  unfold X9_calmBehind at hF
  refine Sat.mk (own := RX9) rfl (by decide +kernel) (Nat.le_of_ble_eq_true rfl) (fun G => ?_)
  refine V.sub (lv2 := [(0, _), (1, _), (2, _), (3, _), (4, _), (5, _), (6, _), (7, _)]) [0, 1, 2, 3, 4, 5, 6, 7] rfl ?_
  refine V.aload_n 0 dX9_calmBehind_0 rfl rfl ?_
  refine V.getR (v := 13) fl_X9_9 sh_26 rfl fx_26_0 (by decide) dX9_calmBehind_1 ?_
  refine V.iload_n 2 dX9_calmBehind_4 rfl rfl ?_
  obtain ⟨r20, hc21, hF⟩ := bp_s hF
  refine V.callVi mf_X1_calmingOf ml_X9_42 sh_13 (s_X1_calmingOf (Or.inr rfl) hc21) (by decide) rfl rfl (Nat.le_of_ble_eq_true rfl) dX9_calmBehind_5 ?_
  refine V.istore [(8, _), (0, _), (1, _), (2, _), (3, _), (4, _), (5, _), (6, _), (7, _)] dX9_calmBehind_8 (by decide) rfl ?_
  refine V.iload_n 2 dX9_calmBehind_10 rfl rfl ?_
  refine V.istore [(9, _), (8, _), (0, _), (1, _), (2, _), (3, _), (4, _), (5, _), (6, _), (7, _)] dX9_calmBehind_11 (by decide) rfl ?_
  refine V.iconst (v := 0) dX9_calmBehind_13 rfl ?_
  refine V.istore [(10, _), (9, _), (8, _), (0, _), (1, _), (2, _), (3, _), (4, _), (5, _), (6, _), (7, _)] dX9_calmBehind_14 (by decide) rfl ?_
  exact V.sub [3, 6, 7, 8, 9, 10, 2, 1, 0] rfl (v_X9_calmBehind_16 n _ _ _ _ _ _ _ _ _ hF)
/-! MonsterCot$Ways.calmNow -/
theorem dX9_calmNow_0 : decode cX9_calmNow 0 = .ok (.aload_n 1, 1) := by decide +kernel
theorem dX9_calmNow_1 : decode cX9_calmNow 1 = .ok (.getfield 54, 3) := by decide +kernel
theorem dX9_calmNow_4 : decode cX9_calmNow 4 = .ok (.aload_n 0, 1) := by decide +kernel
theorem dX9_calmNow_5 : decode cX9_calmNow 5 = .ok (.getfield 9, 3) := by decide +kernel
theorem dX9_calmNow_8 : decode cX9_calmNow 8 = .ok (.iload_n 2, 1) := by decide +kernel
theorem dX9_calmNow_9 : decode cX9_calmNow 9 = .ok (.invokevirtual 57, 3) := by decide +kernel
theorem dX9_calmNow_12 : decode cX9_calmNow 12 = .ok (.invokestatic 38, 3) := by decide +kernel
theorem dX9_calmNow_15 : decode cX9_calmNow 15 = .ok (.istore 4, 2) := by decide +kernel
theorem dX9_calmNow_17 : decode cX9_calmNow 17 = .ok (.aload_n 1, 1) := by decide +kernel
theorem dX9_calmNow_18 : decode cX9_calmNow 18 = .ok (.getfield 60, 3) := by decide +kernel
theorem dX9_calmNow_21 : decode cX9_calmNow 21 = .ok (.istore 5, 2) := by decide +kernel
theorem dX9_calmNow_23 : decode cX9_calmNow 23 = .ok (.aload_n 0, 1) := by decide +kernel
theorem dX9_calmNow_24 : decode cX9_calmNow 24 = .ok (.aload_n 1, 1) := by decide +kernel
theorem dX9_calmNow_25 : decode cX9_calmNow 25 = .ok (.getfield 64, 3) := by decide +kernel
theorem dX9_calmNow_28 : decode cX9_calmNow 28 = .ok (.iload_n 2, 1) := by decide +kernel
theorem dX9_calmNow_29 : decode cX9_calmNow 29 = .ok (.iload_n 3, 1) := by decide +kernel
theorem dX9_calmNow_30 : decode cX9_calmNow 30 = .ok (.aload_n 1, 1) := by decide +kernel
theorem dX9_calmNow_31 : decode cX9_calmNow 31 = .ok (.getfield 67, 3) := by decide +kernel
theorem dX9_calmNow_34 : decode cX9_calmNow 34 = .ok (.iload 5, 2) := by decide +kernel
theorem dX9_calmNow_36 : decode cX9_calmNow 36 = .ok (.invokestatic 38, 3) := by decide +kernel
theorem dX9_calmNow_39 : decode cX9_calmNow 39 = .ok (.iload 4, 2) := by decide +kernel
theorem dX9_calmNow_41 : decode cX9_calmNow 41 = .ok (.aload_n 1, 1) := by decide +kernel
theorem dX9_calmNow_42 : decode cX9_calmNow 42 = .ok (.getfield 70, 3) := by decide +kernel
theorem dX9_calmNow_45 : decode cX9_calmNow 45 = .ok (.aload_n 1, 1) := by decide +kernel
theorem dX9_calmNow_46 : decode cX9_calmNow 46 = .ok (.getfield 32, 3) := by decide +kernel
theorem dX9_calmNow_49 : decode cX9_calmNow 49 = .ok (.iload 5, 2) := by decide +kernel
theorem dX9_calmNow_51 : decode cX9_calmNow 51 = .ok (.invokestatic 38, 3) := by decide +kernel
theorem dX9_calmNow_54 : decode cX9_calmNow 54 = .ok (.invokevirtual 73, 3) := by decide +kernel
theorem dX9_calmNow_57 : decode cX9_calmNow 57 = .ok (.ireturn, 1) := by decide +kernel
def X9_calmNow (n : Nat) (a1 : Nat) (x2 : Int32) (x3 : Int32) (h : Mm) : Option (Int32 × Mm) := (bp (X1_kindOf 13 x2 h) (fun r12 => (bp (X11_at (a1 + 1) r12 h) (fun r14 => (bp (X11_at (a1 + 3) (h.1 a1 5) h) (fun r16 => (bp (X11_at (a1 + 2) (h.1 a1 5) h) (fun r18 => (bd (X9_calmBehind n (h.1 a1 4) x2 x3 r16 r14 (h.1 a1 6) r18 h) (fun r20 h22 => (some (r20, h22))))))))))))
set_option maxRecDepth 100000 in
set_option maxHeartbeats 4000000 in
theorem s_X9_calmNow {X : WX} {o : Mm} {n : Nat} {a1 : Nat} {x2 : Int32} {x3 : Int32} {rv : Int32} {hz : Mm} {h : Mm} (ha1 : isBed a1) (hF : X9_calmNow n a1 x2 x3 h = some (rv, hz)) : Sat X yX9_calmNow cX9_calmNow 6 (some .int) 5 [.ref (xa X 26), .ref (xa X a1), .int x2, .int x3] true o h (some (.int rv)) hz := by
  unfold X9_calmNow at hF
  refine Sat.mk (own := RX9) rfl (by decide +kernel) (Nat.le_of_ble_eq_true rfl) (fun G => ?_)
  refine V.sub (lv2 := [(0, _), (1, _), (2, _), (3, _)]) [0, 1, 2, 3] rfl ?_
  refine V.aload_n 1 dX9_calmNow_0 rfl rfl ?_
  refine V.getR (v := a1 + 1) fl_X9_54 ha1.sh rfl ha1.fx0 (by have := ha1.lt; omega) dX9_calmNow_1 ?_
  refine V.aload_n 0 dX9_calmNow_4 rfl rfl ?_
  refine V.getR (v := 13) fl_X9_9 sh_26 rfl fx_26_0 (by decide) dX9_calmNow_5 ?_
  refine V.iload_n 2 dX9_calmNow_8 rfl rfl ?_
  obtain ⟨r12, hc13, hF⟩ := bp_s hF
  refine V.callVi mf_X1_kindOf ml_X9_57 sh_13 (s_X1_kindOf (Or.inr rfl) hc13) (by decide) rfl rfl (Nat.le_of_ble_eq_true rfl) dX9_calmNow_9 ?_
  obtain ⟨r14, hc15, hF⟩ := bp_s hF
  refine V.callNi mf_X11_at ml_X9_38 (s_X11_at (Or.inl ha1.a0) hc15) (by decide) rfl rfl (Nat.le_of_ble_eq_true rfl) dX9_calmNow_12 ?_
  refine V.istore [(4, _), (0, _), (1, _), (2, _), (3, _)] dX9_calmNow_15 (by decide) rfl ?_
  refine V.aload_n 2 dX9_calmNow_17 rfl rfl ?_
  refine V.getI fl_X9_60 ha1.sh rfl ha1.km dX9_calmNow_18 ?_
  refine V.istore [(5, _), (4, _), (0, _), (1, _), (2, _), (3, _)] dX9_calmNow_21 (by decide) rfl ?_
  refine V.aload_n 2 dX9_calmNow_23 rfl rfl ?_
  refine V.aload_n 3 dX9_calmNow_24 rfl rfl ?_
  refine V.getI fl_X9_64 ha1.sh rfl ha1.km dX9_calmNow_25 ?_
  refine V.iload_n 4 dX9_calmNow_28 rfl rfl ?_
  refine V.iload_n 5 dX9_calmNow_29 rfl rfl ?_
  refine V.aload_n 3 dX9_calmNow_30 rfl rfl ?_
  refine V.getR (v := a1 + 3) fl_X9_67 ha1.sh rfl ha1.fx2 (by have := ha1.lt; omega) dX9_calmNow_31 ?_
  refine V.iload 0 dX9_calmNow_34 rfl ?_
  obtain ⟨r16, hc17, hF⟩ := bp_s hF
  refine V.callNi mf_X11_at ml_X9_38 (s_X11_at (Or.inl ha1.a2) hc17) (by decide) rfl rfl (Nat.le_of_ble_eq_true rfl) dX9_calmNow_36 ?_
  refine V.iload 1 dX9_calmNow_39 rfl ?_
  refine V.aload_n 3 dX9_calmNow_41 rfl rfl ?_
  refine V.getI fl_X9_70 ha1.sh rfl ha1.km dX9_calmNow_42 ?_
  refine V.aload_n 3 dX9_calmNow_45 rfl rfl ?_
  refine V.getR (v := a1 + 2) fl_X9_32 ha1.sh rfl ha1.fx1 (by have := ha1.lt; omega) dX9_calmNow_46 ?_
  refine V.iload 0 dX9_calmNow_49 rfl ?_
  obtain ⟨r18, hc19, hF⟩ := bp_s hF
  refine V.callNi mf_X11_at ml_X9_38 (s_X11_at (Or.inl ha1.a1) hc19) (by decide) rfl rfl (Nat.le_of_ble_eq_true rfl) dX9_calmNow_51 ?_
  obtain ⟨r20, h22, hc21, hF⟩ := bd_s hF
  refine V.callVi mf_X9_calmBehind ml_X9_73 sh_26 (s_X9_calmBehind hc21) (by decide) rfl rfl (Nat.le_of_ble_eq_true rfl) dX9_calmNow_54 ?_
  cases hF
  exact V.iret dX9_calmNow_57
/-! MonsterCot$Ways.moreBored -/
theorem dX9_moreBored_0 : decode cX9_moreBored 0 = .ok (.iload_n 0, 1) := by decide +kernel
theorem dX9_moreBored_1 : decode cX9_moreBored 1 = .ok (.iconst 1, 1) := by decide +kernel
theorem dX9_moreBored_2 : decode cX9_moreBored 2 = .ok (.iadd, 1) := by decide +kernel
theorem dX9_moreBored_3 : decode cX9_moreBored 3 = .ok (.bipush 9, 2) := by decide +kernel
theorem dX9_moreBored_5 : decode cX9_moreBored 5 = .ok (.invokestatic 106, 3) := by decide +kernel
theorem dX9_moreBored_8 : decode cX9_moreBored 8 = .ok (.ireturn, 1) := by decide +kernel
def X9_moreBored (x0 : Int32) (h : Mm) : Option Int32 := (bp (J9_min_7cf53 (x0 + (1 : Int32)) (9 : Int32) h) (fun r3 => (some r3)))
set_option maxRecDepth 100000 in
set_option maxHeartbeats 4000000 in
theorem s_X9_moreBored {X : WX} {o : Mm} {x0 : Int32} {rv : Int32} {h : Mm} (hF : X9_moreBored x0 h = some rv) : Sat X yX9_moreBored cX9_moreBored 1 (some .int) 2 [.int x0] true o h (some (.int rv)) h := by
  unfold X9_moreBored at hF
  refine Sat.mk (own := RX9) rfl (by decide +kernel) (Nat.le_of_ble_eq_true rfl) (fun G => ?_)
  refine V.sub (lv2 := [(0, _)]) [0] rfl ?_
  refine V.iload_n 0 dX9_moreBored_0 rfl rfl ?_
  refine V.iconst (v := 1) dX9_moreBored_1 rfl ?_
  refine V.iadd dX9_moreBored_2 ?_
  refine V.bipush (v := 9) dX9_moreBored_3 (by decide) ?_
  obtain ⟨r3, hc4, hF⟩ := bp_s hF
  refine V.callSi mf_J9_min_7cf53 ml_X9_106 (s_J9_min_7cf53 hc4) (by decide) rfl rfl (Nat.le_of_ble_eq_true rfl) dX9_moreBored_5 ?_
  cases hF
  exact V.iret dX9_moreBored_8
/-! MonsterCot$Ways.bore -/
theorem dX9_bore_0 : decode cX9_bore 0 = .ok (.aload_n 0, 1) := by decide +kernel
theorem dX9_bore_1 : decode cX9_bore 1 = .ok (.getfield 54, 3) := by decide +kernel
theorem dX9_bore_4 : decode cX9_bore 4 = .ok (.iload_n 1, 1) := by decide +kernel
theorem dX9_bore_5 : decode cX9_bore 5 = .ok (.aload_n 0, 1) := by decide +kernel
theorem dX9_bore_6 : decode cX9_bore 6 = .ok (.getfield 54, 3) := by decide +kernel
theorem dX9_bore_9 : decode cX9_bore 9 = .ok (.iload_n 1, 1) := by decide +kernel
theorem dX9_bore_10 : decode cX9_bore 10 = .ok (.invokestatic 38, 3) := by decide +kernel
theorem dX9_bore_13 : decode cX9_bore 13 = .ok (.invokestatic 103, 3) := by decide +kernel
theorem dX9_bore_16 : decode cX9_bore 16 = .ok (.invokestatic 92, 3) := by decide +kernel
theorem dX9_bore_19 : decode cX9_bore 19 = .ok (.return_, 1) := by decide +kernel
def X9_bore (a0 : Nat) (x1 : Int32) (h : Mm) : Option (Unit × Mm) := (bp (X11_at (a0 + 1) x1 h) (fun r8 => (bp (X9_moreBored r8 h) (fun r10 => (bd (X11_put (a0 + 1) x1 r10 h) (fun _ h14 => (some ((), h14))))))))
set_option maxRecDepth 100000 in
set_option maxHeartbeats 4000000 in
theorem s_X9_bore {X : WX} {o : Mm} {a0 : Nat} {x1 : Int32} {rv : Unit} {hz : Mm} {h : Mm} (ha0 : isBed a0) (hF : X9_bore a0 x1 h = some (rv, hz)) : Sat X yX9_bore cX9_bore 2 (none) 3 [.ref (xa X a0), .int x1] true o h none hz := by
  unfold X9_bore at hF
  refine Sat.mk (own := RX9) rfl (by decide +kernel) (Nat.le_of_ble_eq_true rfl) (fun G => ?_)
  refine V.sub (lv2 := [(0, _), (1, _)]) [0, 1] rfl ?_
  refine V.aload_n 0 dX9_bore_0 rfl rfl ?_
  refine V.getR (v := a0 + 1) fl_X9_54 ha0.sh rfl ha0.fx0 (by have := ha0.lt; omega) dX9_bore_1 ?_
  refine V.iload_n 1 dX9_bore_4 rfl rfl ?_
  refine V.aload_n 0 dX9_bore_5 rfl rfl ?_
  refine V.getR (v := a0 + 1) fl_X9_54 ha0.sh rfl ha0.fx0 (by have := ha0.lt; omega) dX9_bore_6 ?_
  refine V.iload_n 1 dX9_bore_9 rfl rfl ?_
  obtain ⟨r8, hc9, hF⟩ := bp_s hF
  refine V.callNi mf_X11_at ml_X9_38 (s_X11_at (Or.inl ha0.a0) hc9) (by decide) rfl rfl (Nat.le_of_ble_eq_true rfl) dX9_bore_10 ?_
  obtain ⟨r10, hc11, hF⟩ := bp_s hF
  refine V.callSi mf_X9_moreBored ml_X9_103 (s_X9_moreBored hc11) (by decide) rfl rfl (Nat.le_of_ble_eq_true rfl) dX9_bore_13 ?_
  obtain ⟨r12, h14, hc13, hF⟩ := bd_s hF
  refine V.callNv mf_X11_put ml_X9_92 (s_X11_put ha0.a0 hc13) (by decide) rfl rfl (Nat.le_of_ble_eq_true rfl) dX9_bore_16 ?_
  cases hF
  exact V.vret dX9_bore_19
/-! MonsterCot$Ways.doRead -/
theorem dX9_doRead_0 : decode cX9_doRead 0 = .ok (.iload 4, 2) := by decide +kernel
theorem dX9_doRead_2 : decode cX9_doRead 2 = .ok (.ifCond .eq 9, 3) := by decide +kernel
theorem dX9_doRead_5 : decode cX9_doRead 5 = .ok (.iload_n 3, 1) := by decide +kernel
theorem dX9_doRead_6 : decode cX9_doRead 6 = .ok (.iconst 1, 1) := by decide +kernel
theorem dX9_doRead_7 : decode cX9_doRead 7 = .ok (.isub, 1) := by decide +kernel
theorem dX9_doRead_8 : decode cX9_doRead 8 = .ok (.goto 4, 3) := by decide +kernel
theorem dX9_doRead_11 : decode cX9_doRead 11 = .ok (.iload_n 3, 1) := by decide +kernel
theorem dX9_doRead_12 : decode cX9_doRead 12 = .ok (.istore 5, 2) := by decide +kernel
theorem dX9_doRead_14 : decode cX9_doRead 14 = .ok (.aload_n 0, 1) := by decide +kernel
theorem dX9_doRead_15 : decode cX9_doRead 15 = .ok (.aload_n 1, 1) := by decide +kernel
theorem dX9_doRead_16 : decode cX9_doRead 16 = .ok (.iload_n 2, 1) := by decide +kernel
theorem dX9_doRead_17 : decode cX9_doRead 17 = .ok (.iload 5, 2) := by decide +kernel
theorem dX9_doRead_19 : decode cX9_doRead 19 = .ok (.invokevirtual 88, 3) := by decide +kernel
theorem dX9_doRead_22 : decode cX9_doRead 22 = .ok (.istore 6, 2) := by decide +kernel
theorem dX9_doRead_24 : decode cX9_doRead 24 = .ok (.aload_n 1, 1) := by decide +kernel
theorem dX9_doRead_25 : decode cX9_doRead 25 = .ok (.iload 4, 2) := by decide +kernel
theorem dX9_doRead_27 : decode cX9_doRead 27 = .ok (.ifCond .eq 13, 3) := by decide +kernel
theorem dX9_doRead_30 : decode cX9_doRead 30 = .ok (.iload 6, 2) := by decide +kernel
theorem dX9_doRead_32 : decode cX9_doRead 32 = .ok (.iconst 5, 1) := by decide +kernel
theorem dX9_doRead_33 : decode cX9_doRead 33 = .ok (.isub, 1) := by decide +kernel
theorem dX9_doRead_34 : decode cX9_doRead 34 = .ok (.invokestatic 51, 3) := by decide +kernel
theorem dX9_doRead_37 : decode cX9_doRead 37 = .ok (.goto 5, 3) := by decide +kernel
theorem dX9_doRead_40 : decode cX9_doRead 40 = .ok (.iload 6, 2) := by decide +kernel
theorem dX9_doRead_42 : decode cX9_doRead 42 = .ok (.putfield 64, 3) := by decide +kernel
theorem dX9_doRead_45 : decode cX9_doRead 45 = .ok (.aload_n 1, 1) := by decide +kernel
theorem dX9_doRead_46 : decode cX9_doRead 46 = .ok (.getfield 32, 3) := by decide +kernel
theorem dX9_doRead_49 : decode cX9_doRead 49 = .ok (.aload_n 1, 1) := by decide +kernel
theorem dX9_doRead_50 : decode cX9_doRead 50 = .ok (.getfield 60, 3) := by decide +kernel
theorem dX9_doRead_53 : decode cX9_doRead 53 = .ok (.aload_n 1, 1) := by decide +kernel
theorem dX9_doRead_54 : decode cX9_doRead 54 = .ok (.getfield 32, 3) := by decide +kernel
theorem dX9_doRead_57 : decode cX9_doRead 57 = .ok (.aload_n 1, 1) := by decide +kernel
theorem dX9_doRead_58 : decode cX9_doRead 58 = .ok (.getfield 60, 3) := by decide +kernel
theorem dX9_doRead_61 : decode cX9_doRead 61 = .ok (.invokestatic 38, 3) := by decide +kernel
theorem dX9_doRead_64 : decode cX9_doRead 64 = .ok (.iload 5, 2) := by decide +kernel
theorem dX9_doRead_66 : decode cX9_doRead 66 = .ok (.iadd, 1) := by decide +kernel
theorem dX9_doRead_67 : decode cX9_doRead 67 = .ok (.invokestatic 92, 3) := by decide +kernel
theorem dX9_doRead_70 : decode cX9_doRead 70 = .ok (.aload_n 1, 1) := by decide +kernel
theorem dX9_doRead_71 : decode cX9_doRead 71 = .ok (.aload_n 0, 1) := by decide +kernel
theorem dX9_doRead_72 : decode cX9_doRead 72 = .ok (.getfield 9, 3) := by decide +kernel
theorem dX9_doRead_75 : decode cX9_doRead 75 = .ok (.iload_n 2, 1) := by decide +kernel
theorem dX9_doRead_76 : decode cX9_doRead 76 = .ok (.invokevirtual 57, 3) := by decide +kernel
theorem dX9_doRead_79 : decode cX9_doRead 79 = .ok (.invokestatic 96, 3) := by decide +kernel
theorem dX9_doRead_82 : decode cX9_doRead 82 = .ok (.aload_n 1, 1) := by decide +kernel
theorem dX9_doRead_83 : decode cX9_doRead 83 = .ok (.dup, 1) := by decide +kernel
theorem dX9_doRead_84 : decode cX9_doRead 84 = .ok (.getfield 100, 3) := by decide +kernel
theorem dX9_doRead_87 : decode cX9_doRead 87 = .ok (.iconst 1, 1) := by decide +kernel
theorem dX9_doRead_88 : decode cX9_doRead 88 = .ok (.iload_n 2, 1) := by decide +kernel
theorem dX9_doRead_89 : decode cX9_doRead 89 = .ok (.ishl, 1) := by decide +kernel
theorem dX9_doRead_90 : decode cX9_doRead 90 = .ok (.ior, 1) := by decide +kernel
theorem dX9_doRead_91 : decode cX9_doRead 91 = .ok (.putfield 100, 3) := by decide +kernel
theorem dX9_doRead_94 : decode cX9_doRead 94 = .ok (.return_, 1) := by decide +kernel
def X9_doRead_42 (n : Nat) (a1 : Nat) (x2 : Int32) (x5 : Int32) (s1 : Int32) (h : Mm) : Option (Unit × Mm) := (bp (X11_at (a1 + 2) ((wI h a1 4 s1).1 a1 5) (wI h a1 4 s1)) (fun r21 => (bd (X11_put (a1 + 2) ((wI h a1 4 s1).1 a1 5) (r21 + x5) (wI h a1 4 s1)) (fun _ h25 => (bp (X1_kindOf 13 x2 h25) (fun r26 => (bd (X9_bore a1 r26 h25) (fun _ h30 => (some ((), (wI h30 a1 9 ((h30.1 a1 9) ||| ((1 : Int32) <<< (x2 &&& 31))))))))))))))
set_option maxRecDepth 100000 in
set_option maxHeartbeats 4000000 in
theorem v_X9_doRead_42 {X : WX} {G : GX} {o : Mm} {n : Nat} {a1 : Nat} {rv : Unit} {hz : Mm} (ha1 : isBed a1) {x2 : Int32} {x5 : Int32} {s1 : Int32} {h : Mm} (hF : X9_doRead_42 n a1 x2 x5 s1 h = some (rv, hz)) : V X G RX9 cX9_doRead 7 (none) 6 0 0 (QR X G true o none hz) true o 42 [(0, .ref (xa X 26)), (1, .ref (xa X a1)), (2, .int x2), (5, .int x5)] [.int s1, .ref (xa X a1)] h := by
  unfold X9_doRead_42 at hF
  refine V.putI fl_X9_64 rfl (tyX0_ok 4 (by decide)) rfl rfl ha1.sh rfl ha1.km dX9_doRead_42 ?_
  refine V.aload_n 1 dX9_doRead_45 rfl rfl ?_
  refine V.getR (v := a1 + 2) fl_X9_32 ha1.sh rfl ha1.fx1 (by have := ha1.lt; omega) dX9_doRead_46 ?_
  refine V.aload_n 1 dX9_doRead_49 rfl rfl ?_
  refine V.getI fl_X9_60 ha1.sh rfl ha1.km dX9_doRead_50 ?_
  refine V.aload_n 1 dX9_doRead_53 rfl rfl ?_
  refine V.getR (v := a1 + 2) fl_X9_32 ha1.sh rfl ha1.fx1 (by have := ha1.lt; omega) dX9_doRead_54 ?_
  refine V.aload_n 1 dX9_doRead_57 rfl rfl ?_
  refine V.getI fl_X9_60 ha1.sh rfl ha1.km dX9_doRead_58 ?_
  obtain ⟨r21, hc22, hF⟩ := bp_s hF
  refine V.callNi mf_X11_at ml_X9_38 (s_X11_at (Or.inl ha1.a1) hc22) (by decide) rfl rfl (Nat.le_of_ble_eq_true rfl) dX9_doRead_61 ?_
  refine V.iload 3 dX9_doRead_64 rfl ?_
  refine V.iadd dX9_doRead_66 ?_
  obtain ⟨r23, h25, hc24, hF⟩ := bd_s hF
  refine V.callNv mf_X11_put ml_X9_92 (s_X11_put ha1.a1 hc24) (by decide) rfl rfl (Nat.le_of_ble_eq_true rfl) dX9_doRead_67 ?_
  refine V.aload_n 1 dX9_doRead_70 rfl rfl ?_
  refine V.aload_n 0 dX9_doRead_71 rfl rfl ?_
  refine V.getR (v := 13) fl_X9_9 sh_26 rfl fx_26_0 (by decide) dX9_doRead_72 ?_
  refine V.iload_n 2 dX9_doRead_75 rfl rfl ?_
  obtain ⟨r26, hc27, hF⟩ := bp_s hF
  refine V.callVi mf_X1_kindOf ml_X9_57 sh_13 (s_X1_kindOf (Or.inr rfl) hc27) (by decide) rfl rfl (Nat.le_of_ble_eq_true rfl) dX9_doRead_76 ?_
  obtain ⟨r28, h30, hc29, hF⟩ := bd_s hF
  refine V.callSv mf_X9_bore ml_X9_96 (s_X9_bore ha1 hc29) (by decide) rfl rfl (Nat.le_of_ble_eq_true rfl) dX9_doRead_79 ?_
  refine V.aload_n 1 dX9_doRead_82 rfl rfl ?_
  refine V.dup dX9_doRead_83 rfl ?_
  refine V.getI fl_X9_100 ha1.sh rfl ha1.km dX9_doRead_84 ?_
  refine V.iconst (v := 1) dX9_doRead_87 rfl ?_
  refine V.iload_n 2 dX9_doRead_88 rfl rfl ?_
  refine V.ishl dX9_doRead_89 ?_
  refine V.ior dX9_doRead_90 ?_
  refine V.putI fl_X9_100 rfl (tyX0_ok 9 (by decide)) rfl rfl ha1.sh rfl ha1.km dX9_doRead_91 ?_
  cases hF
  exact V.vret dX9_doRead_94
def X9_doRead_12 (n : Nat) (a1 : Nat) (x2 : Int32) (x4 : Bool) (s0 : Int32) (h : Mm) : Option (Unit × Mm) := (bd (X9_calmNow n a1 x2 s0 h) (fun r31 h33 => (if x4 = true then (bp (X11_heldCalm (r31 - (5 : Int32)) h33) (fun r34 => (X9_doRead_42 n a1 x2 s0 r34 h33))) else (X9_doRead_42 n a1 x2 s0 r31 h33))))
set_option maxRecDepth 100000 in
set_option maxHeartbeats 4000000 in
theorem v_X9_doRead_12 {X : WX} {G : GX} {o : Mm} {n : Nat} {a1 : Nat} {rv : Unit} {hz : Mm} (ha1 : isBed a1) {x2 : Int32} {x4 : Bool} {s0 : Int32} {h : Mm} (hF : X9_doRead_12 n a1 x2 x4 s0 h = some (rv, hz)) : V X G RX9 cX9_doRead 7 (none) 6 0 0 (QR X G true o none hz) true o 12 [(0, .ref (xa X 26)), (1, .ref (xa X a1)), (2, .int x2), (4, .int (b2i x4))] [.int s0] h := by
  unfold X9_doRead_12 at hF
  refine V.istore [(5, _), (0, _), (1, _), (2, _), (4, _)] dX9_doRead_12 (by decide) rfl ?_
  refine V.aload_n 1 dX9_doRead_14 rfl rfl ?_
  refine V.aload_n 2 dX9_doRead_15 rfl rfl ?_
  refine V.iload_n 3 dX9_doRead_16 rfl rfl ?_
  refine V.iload 0 dX9_doRead_17 rfl ?_
  obtain ⟨r31, h33, hc32, hF⟩ := bd_s hF
  refine V.callVi mf_X9_calmNow ml_X9_88 sh_26 (s_X9_calmNow ha1 hc32) (by decide) rfl rfl (Nat.le_of_ble_eq_true rfl) dX9_doRead_19 ?_
  refine V.istore [(6, _), (5, _), (0, _), (1, _), (2, _), (4, _)] dX9_doRead_22 (by decide) rfl ?_
  refine V.aload_n 3 dX9_doRead_24 rfl rfl ?_
  refine V.iload 5 dX9_doRead_25 rfl ?_
  refine V.ifz_eq (tgt := 40) dX9_doRead_27 rfl (fun c => ?_) (fun c => ?_)
  · replace hF := iq c hF
    refine V.iload 0 dX9_doRead_40 rfl ?_
    exact V.sub [2, 3, 4, 1] rfl (v_X9_doRead_42 ha1 hF)
  · replace hF := ip c hF
    refine V.iload 0 dX9_doRead_30 rfl ?_
    refine V.iconst (v := 5) dX9_doRead_32 rfl ?_
    refine V.isub dX9_doRead_33 ?_
    obtain ⟨r34, hc35, hF⟩ := bp_s hF
    refine V.callNi mf_X11_heldCalm ml_X9_51 (s_X11_heldCalm hc35) (by decide) rfl rfl (Nat.le_of_ble_eq_true rfl) dX9_doRead_34 ?_
    refine V.goto (tgt := 42) dX9_doRead_37 rfl ?_
    exact V.sub [2, 3, 4, 1] rfl (v_X9_doRead_42 ha1 hF)
def X9_doRead (n : Nat) (a1 : Nat) (x2 : Int32) (x3 : Int32) (x4 : Bool) (h : Mm) : Option (Unit × Mm) := (if x4 = true then (X9_doRead_12 n a1 x2 x4 (x3 - (1 : Int32)) h) else (X9_doRead_12 n a1 x2 x4 x3 h))
set_option maxRecDepth 100000 in
set_option maxHeartbeats 4000000 in
theorem s_X9_doRead {X : WX} {o : Mm} {n : Nat} {a1 : Nat} {x2 : Int32} {x3 : Int32} {x4 : Bool} {rv : Unit} {hz : Mm} {h : Mm} (ha1 : isBed a1) (hF : X9_doRead n a1 x2 x3 x4 h = some (rv, hz)) : Sat X yX9_doRead cX9_doRead 7 (none) 6 [.ref (xa X 26), .ref (xa X a1), .int x2, .int x3, .int (b2i x4)] true o h none hz := by
  unfold X9_doRead at hF
  refine Sat.mk (own := RX9) rfl (by decide +kernel) (Nat.le_of_ble_eq_true rfl) (fun G => ?_)
  refine V.sub (lv2 := [(0, _), (1, _), (2, _), (3, _), (4, _)]) [0, 1, 2, 3, 4] rfl ?_
  refine V.iload 4 dX9_doRead_0 rfl ?_
  refine V.ifz_eq (tgt := 11) dX9_doRead_2 rfl (fun c => ?_) (fun c => ?_)
  · replace hF := iq c hF
    refine V.iload_n 3 dX9_doRead_11 rfl rfl ?_
    exact V.sub [0, 1, 2, 4] rfl (v_X9_doRead_12 ha1 hF)
  · replace hF := ip c hF
    refine V.iload_n 3 dX9_doRead_5 rfl rfl ?_
    refine V.iconst (v := 1) dX9_doRead_6 rfl ?_
    refine V.isub dX9_doRead_7 ?_
    refine V.goto (tgt := 12) dX9_doRead_8 rfl ?_
    exact V.sub [0, 1, 2, 4] rfl (v_X9_doRead_12 ha1 hF)
/-! MonsterCot.read -/
theorem dX11_read_0 : decode cX11_read 0 = .ok (.aload_n 0, 1) := by decide +kernel
theorem dX11_read_1 : decode cX11_read 1 = .ok (.getfield 58, 3) := by decide +kernel
theorem dX11_read_4 : decode cX11_read 4 = .ok (.aload_n 0, 1) := by decide +kernel
theorem dX11_read_5 : decode cX11_read 5 = .ok (.getfield 65, 3) := by decide +kernel
theorem dX11_read_8 : decode cX11_read 8 = .ok (.iload_n 1, 1) := by decide +kernel
theorem dX11_read_9 : decode cX11_read 9 = .ok (.iload_n 2, 1) := by decide +kernel
theorem dX11_read_10 : decode cX11_read 10 = .ok (.iload_n 3, 1) := by decide +kernel
theorem dX11_read_11 : decode cX11_read 11 = .ok (.invokevirtual 195, 3) := by decide +kernel
theorem dX11_read_14 : decode cX11_read 14 = .ok (.ifCond .ne 5, 3) := by decide +kernel
theorem dX11_read_17 : decode cX11_read 17 = .ok (.iconst (-1), 1) := by decide +kernel
theorem dX11_read_18 : decode cX11_read 18 = .ok (.ireturn, 1) := by decide +kernel
theorem dX11_read_19 : decode cX11_read 19 = .ok (.aload_n 0, 1) := by decide +kernel
theorem dX11_read_20 : decode cX11_read 20 = .ok (.getfield 75, 3) := by decide +kernel
theorem dX11_read_23 : decode cX11_read 23 = .ok (.aload_n 0, 1) := by decide +kernel
theorem dX11_read_24 : decode cX11_read 24 = .ok (.getfield 65, 3) := by decide +kernel
theorem dX11_read_27 : decode cX11_read 27 = .ok (.invokevirtual 199, 3) := by decide +kernel
theorem dX11_read_30 : decode cX11_read 30 = .ok (.aload_n 0, 1) := by decide +kernel
theorem dX11_read_31 : decode cX11_read 31 = .ok (.getfield 58, 3) := by decide +kernel
theorem dX11_read_34 : decode cX11_read 34 = .ok (.aload_n 0, 1) := by decide +kernel
theorem dX11_read_35 : decode cX11_read 35 = .ok (.getfield 65, 3) := by decide +kernel
theorem dX11_read_38 : decode cX11_read 38 = .ok (.iload_n 1, 1) := by decide +kernel
theorem dX11_read_39 : decode cX11_read 39 = .ok (.iload_n 2, 1) := by decide +kernel
theorem dX11_read_40 : decode cX11_read 40 = .ok (.iload_n 3, 1) := by decide +kernel
theorem dX11_read_41 : decode cX11_read 41 = .ok (.invokevirtual 202, 3) := by decide +kernel
theorem dX11_read_44 : decode cX11_read 44 = .ok (.aload_n 0, 1) := by decide +kernel
theorem dX11_read_45 : decode cX11_read 45 = .ok (.getfield 65, 3) := by decide +kernel
theorem dX11_read_48 : decode cX11_read 48 = .ok (.getfield 128, 3) := by decide +kernel
theorem dX11_read_51 : decode cX11_read 51 = .ok (.ireturn, 1) := by decide +kernel
def X11_read (n : Nat) (x1 : Int32) (x2 : Int32) (x3 : Bool) (h : Mm) : Option (Int32 × Mm) := (bp (X9_canRead 27 x1 x2 x3 h) (fun r9 => (if r9 = true then (bd (X5_keep 27 h) (fun _ h13 => (bd (X9_doRead n 27 x1 x2 x3 h13) (fun _ h16 => (some ((h16.1 27 4), h16)))))) else (some ((-1 : Int32), h)))))
set_option maxRecDepth 100000 in
set_option maxHeartbeats 4000000 in
theorem s_X11_read {X : WX} {o : Mm} {n : Nat} {x1 : Int32} {x2 : Int32} {x3 : Bool} {rv : Int32} {hz : Mm} {h : Mm} (hF : X11_read n x1 x2 x3 h = some (rv, hz)) : Sat X yX11_read cX11_read 4 (some .int) 7 [.ref (xa X 0), .int x1, .int x2, .int (b2i x3)] true o h (some (.int rv)) hz := by
  unfold X11_read at hF
  refine Sat.mk (own := RX11) rfl (by decide +kernel) (Nat.le_of_ble_eq_true rfl) (fun G => ?_)
  refine V.sub (lv2 := [(0, _), (1, _), (2, _), (3, _)]) [0, 1, 2, 3] rfl ?_
  refine V.aload_n 0 dX11_read_0 rfl rfl ?_
  refine V.getR (v := 26) fl_X11_58 sh_0 rfl fx_0_6 (by decide) dX11_read_1 ?_
  refine V.aload_n 0 dX11_read_4 rfl rfl ?_
  refine V.getR (v := 27) fl_X11_65 sh_0 rfl fx_0_7 (by decide) dX11_read_5 ?_
  refine V.iload_n 1 dX11_read_8 rfl rfl ?_
  refine V.iload_n 2 dX11_read_9 rfl rfl ?_
  refine V.iload_n 3 dX11_read_10 rfl rfl ?_
  obtain ⟨r9, hc10, hF⟩ := bp_s hF
  refine V.callVi mf_X9_canRead ml_X11_195 sh_26 (s_X9_canRead isb_27 hc10) (by decide) rfl rfl (Nat.le_of_ble_eq_true rfl) dX11_read_11 ?_
  refine V.ifz_ne (tgt := 19) dX11_read_14 rfl (fun c => ?_) (fun c => ?_)
  · replace hF := ip c hF
    refine V.aload_n 0 dX11_read_19 rfl rfl ?_
    refine V.getR (v := 37) fl_X11_75 sh_0 rfl fx_0_9 (by decide) dX11_read_20 ?_
    refine V.aload_n 0 dX11_read_23 rfl rfl ?_
    refine V.getR (v := 27) fl_X11_65 sh_0 rfl fx_0_7 (by decide) dX11_read_24 ?_
    obtain ⟨r11, h13, hc12, hF⟩ := bd_s hF
    refine V.callVv mf_X5_keep ml_X11_199 sh_37 (s_X5_keep isb_27 hc12) (by decide) rfl rfl (Nat.le_of_ble_eq_true rfl) dX11_read_27 ?_
    refine V.aload_n 0 dX11_read_30 rfl rfl ?_
    refine V.getR (v := 26) fl_X11_58 sh_0 rfl fx_0_6 (by decide) dX11_read_31 ?_
    refine V.aload_n 0 dX11_read_34 rfl rfl ?_
    refine V.getR (v := 27) fl_X11_65 sh_0 rfl fx_0_7 (by decide) dX11_read_35 ?_
    refine V.iload_n 1 dX11_read_38 rfl rfl ?_
    refine V.iload_n 2 dX11_read_39 rfl rfl ?_
    refine V.iload_n 3 dX11_read_40 rfl rfl ?_
    obtain ⟨r14, h16, hc15, hF⟩ := bd_s hF
    refine V.callVv mf_X9_doRead ml_X11_202 sh_26 (s_X9_doRead isb_27 hc15) (by decide) rfl rfl (Nat.le_of_ble_eq_true rfl) dX11_read_41 ?_
    refine V.aload_n 0 dX11_read_44 rfl rfl ?_
    refine V.getR (v := 27) fl_X11_65 sh_0 rfl fx_0_7 (by decide) dX11_read_45 ?_
    refine V.getI fl_X11_128 sh_27 rfl km_27 dX11_read_48 ?_
    cases hF
    exact V.iret dX11_read_51
  · replace hF := iq c hF
    refine V.iconst (v := -1) dX11_read_17 rfl ?_
    cases hF
    exact V.iret dX11_read_18
/-! MonsterCot$Ways.canDrink -/
theorem dX9_canDrink_0 : decode cX9_canDrink 0 = .ok (.aload_n 0, 1) := by decide +kernel
theorem dX9_canDrink_1 : decode cX9_canDrink 1 = .ok (.getfield 9, 3) := by decide +kernel
theorem dX9_canDrink_4 : decode cX9_canDrink 4 = .ok (.invokevirtual 112, 3) := by decide +kernel
theorem dX9_canDrink_7 : decode cX9_canDrink 7 = .ok (.ifCond .eq 14, 3) := by decide +kernel
theorem dX9_canDrink_10 : decode cX9_canDrink 10 = .ok (.aload_n 1, 1) := by decide +kernel
theorem dX9_canDrink_11 : decode cX9_canDrink 11 = .ok (.getfield 116, 3) := by decide +kernel
theorem dX9_canDrink_14 : decode cX9_canDrink 14 = .ok (.ifCond .ne 7, 3) := by decide +kernel
theorem dX9_canDrink_17 : decode cX9_canDrink 17 = .ok (.iconst 1, 1) := by decide +kernel
theorem dX9_canDrink_18 : decode cX9_canDrink 18 = .ok (.goto 4, 3) := by decide +kernel
theorem dX9_canDrink_21 : decode cX9_canDrink 21 = .ok (.iconst 0, 1) := by decide +kernel
theorem dX9_canDrink_22 : decode cX9_canDrink 22 = .ok (.ireturn, 1) := by decide +kernel
def X9_canDrink (a1 : Nat) (h : Mm) : Option Bool := (bp (X1_stands 13 h) (fun r3 => (if r3 = true then (if (h.1 a1 11) = 0 then (some true) else (some false)) else (some false))))
set_option maxRecDepth 100000 in
set_option maxHeartbeats 4000000 in
theorem s_X9_canDrink {X : WX} {o : Mm} {a1 : Nat} {rv : Bool} {h : Mm} (ha1 : isBed a1) (hF : X9_canDrink a1 h = some rv) : Sat X yX9_canDrink cX9_canDrink 2 (some .boolean) 4 [.ref (xa X 26), .ref (xa X a1)] true o h (some (.int (b2i rv))) h := by
  unfold X9_canDrink at hF
  refine Sat.mk (own := RX9) rfl (by decide +kernel) (Nat.le_of_ble_eq_true rfl) (fun G => ?_)
  refine V.sub (lv2 := [(0, _), (1, _)]) [0, 1] rfl ?_
  refine V.aload_n 0 dX9_canDrink_0 rfl rfl ?_
  refine V.getR (v := 13) fl_X9_9 sh_26 rfl fx_26_0 (by decide) dX9_canDrink_1 ?_
  obtain ⟨r3, hc4, hF⟩ := bp_s hF
  refine V.callVi mf_X1_stands ml_X9_112 sh_13 (s_X1_stands (Or.inr rfl) hc4) (by decide) rfl rfl (Nat.le_of_ble_eq_true rfl) dX9_canDrink_4 ?_
  refine V.ifz_eq (tgt := 21) dX9_canDrink_7 rfl (fun c => ?_) (fun c => ?_)
  · replace hF := iq c hF
    refine V.iconst (v := 0) dX9_canDrink_21 rfl ?_
    cases hF
    exact V.bret dX9_canDrink_22
  · replace hF := ip c hF
    refine V.aload_n 1 dX9_canDrink_10 rfl rfl ?_
    refine V.getI fl_X9_116 ha1.sh rfl ha1.km dX9_canDrink_11 ?_
    refine V.if_ne (tgt := 21) dX9_canDrink_14 rfl (fun c => ?_) (fun c => ?_)
    · replace hF := iq c hF
      refine V.iconst (v := 0) dX9_canDrink_21 rfl ?_
      cases hF
      exact V.bret dX9_canDrink_22
    · replace hF := ip c hF
      refine V.iconst (v := 1) dX9_canDrink_17 rfl ?_
      refine V.goto (tgt := 22) dX9_canDrink_18 rfl ?_
      cases hF
      exact V.bret dX9_canDrink_22
/-! MonsterCot$Ways.drink -/
theorem dX9_drink_0 : decode cX9_drink 0 = .ok (.aload_n 1, 1) := by decide +kernel
theorem dX9_drink_1 : decode cX9_drink 1 = .ok (.aload_n 1, 1) := by decide +kernel
theorem dX9_drink_2 : decode cX9_drink 2 = .ok (.getfield 64, 3) := by decide +kernel
theorem dX9_drink_5 : decode cX9_drink 5 = .ok (.iconst 3, 1) := by decide +kernel
theorem dX9_drink_6 : decode cX9_drink 6 = .ok (.iadd, 1) := by decide +kernel
theorem dX9_drink_7 : decode cX9_drink 7 = .ok (.invokestatic 51, 3) := by decide +kernel
theorem dX9_drink_10 : decode cX9_drink 10 = .ok (.putfield 64, 3) := by decide +kernel
theorem dX9_drink_13 : decode cX9_drink 13 = .ok (.aload_n 1, 1) := by decide +kernel
theorem dX9_drink_14 : decode cX9_drink 14 = .ok (.iconst 1, 1) := by decide +kernel
theorem dX9_drink_15 : decode cX9_drink 15 = .ok (.putfield 116, 3) := by decide +kernel
theorem dX9_drink_18 : decode cX9_drink 18 = .ok (.return_, 1) := by decide +kernel
def X9_drink (a1 : Nat) (h : Mm) : Option (Unit × Mm) := (bp (X11_heldCalm ((h.1 a1 4) + (3 : Int32)) h) (fun r3 => (some ((), (wI (wI h a1 4 r3) a1 11 (1 : Int32))))))
set_option maxRecDepth 100000 in
set_option maxHeartbeats 4000000 in
theorem s_X9_drink {X : WX} {o : Mm} {a1 : Nat} {rv : Unit} {hz : Mm} {h : Mm} (ha1 : isBed a1) (hF : X9_drink a1 h = some (rv, hz)) : Sat X yX9_drink cX9_drink 2 (none) 2 [.ref (xa X 26), .ref (xa X a1)] true o h none hz := by
  unfold X9_drink at hF
  refine Sat.mk (own := RX9) rfl (by decide +kernel) (Nat.le_of_ble_eq_true rfl) (fun G => ?_)
  refine V.sub (lv2 := [(0, _), (1, _)]) [0, 1] rfl ?_
  refine V.aload_n 1 dX9_drink_0 rfl rfl ?_
  refine V.aload_n 1 dX9_drink_1 rfl rfl ?_
  refine V.getI fl_X9_64 ha1.sh rfl ha1.km dX9_drink_2 ?_
  refine V.iconst (v := 3) dX9_drink_5 rfl ?_
  refine V.iadd dX9_drink_6 ?_
  obtain ⟨r3, hc4, hF⟩ := bp_s hF
  refine V.callNi mf_X11_heldCalm ml_X9_51 (s_X11_heldCalm hc4) (by decide) rfl rfl (Nat.le_of_ble_eq_true rfl) dX9_drink_7 ?_
  refine V.putI fl_X9_64 rfl (tyX0_ok 4 (by decide)) rfl rfl ha1.sh rfl ha1.km dX9_drink_10 ?_
  refine V.aload_n 1 dX9_drink_13 rfl rfl ?_
  refine V.iconst (v := 1) dX9_drink_14 rfl ?_
  refine V.putI fl_X9_116 rfl (tyX0_ok 11 (by decide)) rfl rfl ha1.sh rfl ha1.km dX9_drink_15 ?_
  cases hF
  exact V.vret dX9_drink_18
/-! MonsterCot.milk -/
theorem dX11_milk_0 : decode cX11_milk 0 = .ok (.aload_n 0, 1) := by decide +kernel
theorem dX11_milk_1 : decode cX11_milk 1 = .ok (.getfield 58, 3) := by decide +kernel
theorem dX11_milk_4 : decode cX11_milk 4 = .ok (.aload_n 0, 1) := by decide +kernel
theorem dX11_milk_5 : decode cX11_milk 5 = .ok (.getfield 65, 3) := by decide +kernel
theorem dX11_milk_8 : decode cX11_milk 8 = .ok (.invokevirtual 206, 3) := by decide +kernel
theorem dX11_milk_11 : decode cX11_milk 11 = .ok (.ifCond .ne 5, 3) := by decide +kernel
theorem dX11_milk_14 : decode cX11_milk 14 = .ok (.iconst (-1), 1) := by decide +kernel
theorem dX11_milk_15 : decode cX11_milk 15 = .ok (.ireturn, 1) := by decide +kernel
theorem dX11_milk_16 : decode cX11_milk 16 = .ok (.aload_n 0, 1) := by decide +kernel
theorem dX11_milk_17 : decode cX11_milk 17 = .ok (.getfield 75, 3) := by decide +kernel
theorem dX11_milk_20 : decode cX11_milk 20 = .ok (.aload_n 0, 1) := by decide +kernel
theorem dX11_milk_21 : decode cX11_milk 21 = .ok (.getfield 65, 3) := by decide +kernel
theorem dX11_milk_24 : decode cX11_milk 24 = .ok (.invokevirtual 199, 3) := by decide +kernel
theorem dX11_milk_27 : decode cX11_milk 27 = .ok (.aload_n 0, 1) := by decide +kernel
theorem dX11_milk_28 : decode cX11_milk 28 = .ok (.getfield 58, 3) := by decide +kernel
theorem dX11_milk_31 : decode cX11_milk 31 = .ok (.aload_n 0, 1) := by decide +kernel
theorem dX11_milk_32 : decode cX11_milk 32 = .ok (.getfield 65, 3) := by decide +kernel
theorem dX11_milk_35 : decode cX11_milk 35 = .ok (.invokevirtual 210, 3) := by decide +kernel
theorem dX11_milk_38 : decode cX11_milk 38 = .ok (.aload_n 0, 1) := by decide +kernel
theorem dX11_milk_39 : decode cX11_milk 39 = .ok (.getfield 65, 3) := by decide +kernel
theorem dX11_milk_42 : decode cX11_milk 42 = .ok (.getfield 128, 3) := by decide +kernel
theorem dX11_milk_45 : decode cX11_milk 45 = .ok (.ireturn, 1) := by decide +kernel
def X11_milk (h : Mm) : Option (Int32 × Mm) := (bp (X9_canDrink 27 h) (fun r9 => (if r9 = true then (bd (X5_keep 27 h) (fun _ h13 => (bd (X9_drink 27 h13) (fun _ h16 => (some ((h16.1 27 4), h16)))))) else (some ((-1 : Int32), h)))))
set_option maxRecDepth 100000 in
set_option maxHeartbeats 4000000 in
theorem s_X11_milk {X : WX} {o : Mm} {rv : Int32} {hz : Mm} {h : Mm} (hF : X11_milk h = some (rv, hz)) : Sat X yX11_milk cX11_milk 1 (some .int) 5 [.ref (xa X 0)] true o h (some (.int rv)) hz := by
  unfold X11_milk at hF
  refine Sat.mk (own := RX11) rfl (by decide +kernel) (Nat.le_of_ble_eq_true rfl) (fun G => ?_)
  refine V.sub (lv2 := [(0, _)]) [0] rfl ?_
  refine V.aload_n 0 dX11_milk_0 rfl rfl ?_
  refine V.getR (v := 26) fl_X11_58 sh_0 rfl fx_0_6 (by decide) dX11_milk_1 ?_
  refine V.aload_n 0 dX11_milk_4 rfl rfl ?_
  refine V.getR (v := 27) fl_X11_65 sh_0 rfl fx_0_7 (by decide) dX11_milk_5 ?_
  obtain ⟨r9, hc10, hF⟩ := bp_s hF
  refine V.callVi mf_X9_canDrink ml_X11_206 sh_26 (s_X9_canDrink isb_27 hc10) (by decide) rfl rfl (Nat.le_of_ble_eq_true rfl) dX11_milk_8 ?_
  refine V.ifz_ne (tgt := 16) dX11_milk_11 rfl (fun c => ?_) (fun c => ?_)
  · replace hF := ip c hF
    refine V.aload_n 0 dX11_milk_16 rfl rfl ?_
    refine V.getR (v := 37) fl_X11_75 sh_0 rfl fx_0_9 (by decide) dX11_milk_17 ?_
    refine V.aload_n 0 dX11_milk_20 rfl rfl ?_
    refine V.getR (v := 27) fl_X11_65 sh_0 rfl fx_0_7 (by decide) dX11_milk_21 ?_
    obtain ⟨r11, h13, hc12, hF⟩ := bd_s hF
    refine V.callVv mf_X5_keep ml_X11_199 sh_37 (s_X5_keep isb_27 hc12) (by decide) rfl rfl (Nat.le_of_ble_eq_true rfl) dX11_milk_24 ?_
    refine V.aload_n 0 dX11_milk_27 rfl rfl ?_
    refine V.getR (v := 26) fl_X11_58 sh_0 rfl fx_0_6 (by decide) dX11_milk_28 ?_
    refine V.aload_n 0 dX11_milk_31 rfl rfl ?_
    refine V.getR (v := 27) fl_X11_65 sh_0 rfl fx_0_7 (by decide) dX11_milk_32 ?_
    obtain ⟨r14, h16, hc15, hF⟩ := bd_s hF
    refine V.callVv mf_X9_drink ml_X11_210 sh_26 (s_X9_drink isb_27 hc15) (by decide) rfl rfl (Nat.le_of_ble_eq_true rfl) dX11_milk_35 ?_
    refine V.aload_n 0 dX11_milk_38 rfl rfl ?_
    refine V.getR (v := 27) fl_X11_65 sh_0 rfl fx_0_7 (by decide) dX11_milk_39 ?_
    refine V.getI fl_X11_128 sh_27 rfl km_27 dX11_milk_42 ?_
    cases hF
    exact V.iret dX11_milk_45
  · replace hF := iq c hF
    refine V.iconst (v := -1) dX11_milk_14 rfl ?_
    cases hF
    exact V.iret dX11_milk_15
/-! MonsterCot$Land.hasHouse -/
theorem dX1_hasHouse_0 : decode cX1_hasHouse 0 = .ok (.iload_n 1, 1) := by decide +kernel
theorem dX1_hasHouse_1 : decode cX1_hasHouse 1 = .ok (.ifCond .lt 15, 3) := by decide +kernel
theorem dX1_hasHouse_4 : decode cX1_hasHouse 4 = .ok (.iload_n 1, 1) := by decide +kernel
theorem dX1_hasHouse_5 : decode cX1_hasHouse 5 = .ok (.aload_n 0, 1) := by decide +kernel
theorem dX1_hasHouse_6 : decode cX1_hasHouse 6 = .ok (.invokevirtual 53, 3) := by decide +kernel
theorem dX1_hasHouse_9 : decode cX1_hasHouse 9 = .ok (.if_icmp .ge 7, 3) := by decide +kernel
theorem dX1_hasHouse_12 : decode cX1_hasHouse 12 = .ok (.iconst 1, 1) := by decide +kernel
theorem dX1_hasHouse_13 : decode cX1_hasHouse 13 = .ok (.goto 4, 3) := by decide +kernel
theorem dX1_hasHouse_16 : decode cX1_hasHouse 16 = .ok (.iconst 0, 1) := by decide +kernel
theorem dX1_hasHouse_17 : decode cX1_hasHouse 17 = .ok (.ireturn, 1) := by decide +kernel
def X1_hasHouse (a0 : Nat) (x1 : Int32) (h : Mm) : Option Bool := (if x1 < 0 then (some false) else (bp (X1_houses a0 h) (fun r3 => (if r3 ≤ x1 then (some false) else (some true)))))
set_option maxRecDepth 100000 in
set_option maxHeartbeats 4000000 in
theorem s_X1_hasHouse {X : WX} {o : Mm} {a0 : Nat} {x1 : Int32} {rv : Bool} {h : Mm} (ha0 : isLd a0) (hF : X1_hasHouse a0 x1 h = some rv) : Sat X yX1_hasHouse cX1_hasHouse 2 (some .boolean) 3 [.ref (xa X a0), .int x1] true o h (some (.int (b2i rv))) h := by
  unfold X1_hasHouse at hF
  refine Sat.mk (own := RX1) rfl (by decide +kernel) (Nat.le_of_ble_eq_true rfl) (fun G => ?_)
  refine V.sub (lv2 := [(0, _), (1, _)]) [0, 1] rfl ?_
  refine V.iload_n 1 dX1_hasHouse_0 rfl rfl ?_
  refine V.if_lt (tgt := 16) dX1_hasHouse_1 rfl (fun c => ?_) (fun c => ?_)
  · replace hF := ip c hF
    refine V.iconst (v := 0) dX1_hasHouse_16 rfl ?_
    cases hF
    exact V.bret dX1_hasHouse_17
  · replace hF := iq c hF
    refine V.iload_n 1 dX1_hasHouse_4 rfl rfl ?_
    refine V.aload_n 0 dX1_hasHouse_5 rfl rfl ?_
    obtain ⟨r3, hc4, hF⟩ := bp_s hF
    refine V.callVi mf_X1_houses ml_X1_53 ha0.sh (s_X1_houses ha0 hc4) (by decide) rfl rfl (Nat.le_of_ble_eq_true rfl) dX1_hasHouse_6 ?_
    refine V.icmp_ge (tgt := 16) dX1_hasHouse_9 rfl (fun c => ?_) (fun c => ?_)
    · replace hF := ip c hF
      refine V.iconst (v := 0) dX1_hasHouse_16 rfl ?_
      cases hF
      exact V.bret dX1_hasHouse_17
    · replace hF := iq c hF
      refine V.iconst (v := 1) dX1_hasHouse_12 rfl ?_
      refine V.goto (tgt := 17) dX1_hasHouse_13 rfl ?_
      cases hF
      exact V.bret dX1_hasHouse_17
/-! MonsterCot$Ways.canGo -/
theorem dX9_canGo_0 : decode cX9_canGo 0 = .ok (.aload_n 0, 1) := by decide +kernel
theorem dX9_canGo_1 : decode cX9_canGo 1 = .ok (.getfield 9, 3) := by decide +kernel
theorem dX9_canGo_4 : decode cX9_canGo 4 = .ok (.iload_n 2, 1) := by decide +kernel
theorem dX9_canGo_5 : decode cX9_canGo 5 = .ok (.invokevirtual 120, 3) := by decide +kernel
theorem dX9_canGo_8 : decode cX9_canGo 8 = .ok (.ifCond .eq 22, 3) := by decide +kernel
theorem dX9_canGo_11 : decode cX9_canGo 11 = .ok (.iload_n 2, 1) := by decide +kernel
theorem dX9_canGo_12 : decode cX9_canGo 12 = .ok (.aload_n 1, 1) := by decide +kernel
theorem dX9_canGo_13 : decode cX9_canGo 13 = .ok (.getfield 60, 3) := by decide +kernel
theorem dX9_canGo_16 : decode cX9_canGo 16 = .ok (.if_icmp .eq 14, 3) := by decide +kernel
theorem dX9_canGo_19 : decode cX9_canGo 19 = .ok (.aload_n 1, 1) := by decide +kernel
theorem dX9_canGo_20 : decode cX9_canGo 20 = .ok (.getfield 123, 3) := by decide +kernel
theorem dX9_canGo_23 : decode cX9_canGo 23 = .ok (.ifCond .ne 7, 3) := by decide +kernel
theorem dX9_canGo_26 : decode cX9_canGo 26 = .ok (.iconst 1, 1) := by decide +kernel
theorem dX9_canGo_27 : decode cX9_canGo 27 = .ok (.goto 4, 3) := by decide +kernel
theorem dX9_canGo_30 : decode cX9_canGo 30 = .ok (.iconst 0, 1) := by decide +kernel
theorem dX9_canGo_31 : decode cX9_canGo 31 = .ok (.ireturn, 1) := by decide +kernel
def X9_canGo (a1 : Nat) (x2 : Int32) (h : Mm) : Option Bool := (bp (X1_hasHouse 13 x2 h) (fun r3 => (if r3 = true then (if x2 = (h.1 a1 5) then (some false) else (if (h.1 a1 12) = 0 then (some true) else (some false))) else (some false))))
set_option maxRecDepth 100000 in
set_option maxHeartbeats 4000000 in
theorem s_X9_canGo {X : WX} {o : Mm} {a1 : Nat} {x2 : Int32} {rv : Bool} {h : Mm} (ha1 : isBed a1) (hF : X9_canGo a1 x2 h = some rv) : Sat X yX9_canGo cX9_canGo 3 (some .boolean) 4 [.ref (xa X 26), .ref (xa X a1), .int x2] true o h (some (.int (b2i rv))) h := by
  unfold X9_canGo at hF
  refine Sat.mk (own := RX9) rfl (by decide +kernel) (Nat.le_of_ble_eq_true rfl) (fun G => ?_)
  refine V.sub (lv2 := [(0, _), (1, _), (2, _)]) [0, 1, 2] rfl ?_
  refine V.aload_n 0 dX9_canGo_0 rfl rfl ?_
  refine V.getR (v := 13) fl_X9_9 sh_26 rfl fx_26_0 (by decide) dX9_canGo_1 ?_
  refine V.iload_n 2 dX9_canGo_4 rfl rfl ?_
  obtain ⟨r3, hc4, hF⟩ := bp_s hF
  refine V.callVi mf_X1_hasHouse ml_X9_120 sh_13 (s_X1_hasHouse (Or.inr rfl) hc4) (by decide) rfl rfl (Nat.le_of_ble_eq_true rfl) dX9_canGo_5 ?_
  refine V.ifz_eq (tgt := 30) dX9_canGo_8 rfl (fun c => ?_) (fun c => ?_)
  · replace hF := iq c hF
    refine V.iconst (v := 0) dX9_canGo_30 rfl ?_
    cases hF
    exact V.bret dX9_canGo_31
  · replace hF := ip c hF
    refine V.iload_n 2 dX9_canGo_11 rfl rfl ?_
    refine V.aload_n 1 dX9_canGo_12 rfl rfl ?_
    refine V.getI fl_X9_60 ha1.sh rfl ha1.km dX9_canGo_13 ?_
    refine V.icmp_eq (tgt := 30) dX9_canGo_16 rfl (fun c => ?_) (fun c => ?_)
    · replace hF := ip c hF
      refine V.iconst (v := 0) dX9_canGo_30 rfl ?_
      cases hF
      exact V.bret dX9_canGo_31
    · replace hF := iq c hF
      refine V.aload_n 1 dX9_canGo_19 rfl rfl ?_
      refine V.getI fl_X9_123 ha1.sh rfl ha1.km dX9_canGo_20 ?_
      refine V.if_ne (tgt := 30) dX9_canGo_23 rfl (fun c => ?_) (fun c => ?_)
      · replace hF := iq c hF
        refine V.iconst (v := 0) dX9_canGo_30 rfl ?_
        cases hF
        exact V.bret dX9_canGo_31
      · replace hF := ip c hF
        refine V.iconst (v := 1) dX9_canGo_26 rfl ?_
        refine V.goto (tgt := 31) dX9_canGo_27 rfl ?_
        cases hF
        exact V.bret dX9_canGo_31
/-! MonsterCot$Ways.go -/
theorem dX9_go_0 : decode cX9_go 0 = .ok (.aload_n 1, 1) := by decide +kernel
theorem dX9_go_1 : decode cX9_go 1 = .ok (.iload_n 2, 1) := by decide +kernel
theorem dX9_go_2 : decode cX9_go 2 = .ok (.putfield 60, 3) := by decide +kernel
theorem dX9_go_5 : decode cX9_go 5 = .ok (.aload_n 1, 1) := by decide +kernel
theorem dX9_go_6 : decode cX9_go 6 = .ok (.iconst 1, 1) := by decide +kernel
theorem dX9_go_7 : decode cX9_go 7 = .ok (.putfield 123, 3) := by decide +kernel
theorem dX9_go_10 : decode cX9_go 10 = .ok (.return_, 1) := by decide +kernel
def X9_go (a1 : Nat) (x2 : Int32) (h : Mm) : Option (Unit × Mm) := (some ((), (wI (wI h a1 5 x2) a1 12 (1 : Int32))))
set_option maxRecDepth 100000 in
set_option maxHeartbeats 4000000 in
theorem s_X9_go {X : WX} {o : Mm} {a1 : Nat} {x2 : Int32} {rv : Unit} {hz : Mm} {h : Mm} (ha1 : isBed a1) (hF : X9_go a1 x2 h = some (rv, hz)) : Sat X yX9_go cX9_go 3 (none) 1 [.ref (xa X 26), .ref (xa X a1), .int x2] true o h none hz := by
  unfold X9_go at hF
  refine Sat.mk (own := RX9) rfl (by decide +kernel) (Nat.le_of_ble_eq_true rfl) (fun G => ?_)
  refine V.sub (lv2 := [(0, _), (1, _), (2, _)]) [0, 1, 2] rfl ?_
  refine V.aload_n 1 dX9_go_0 rfl rfl ?_
  refine V.iload_n 2 dX9_go_1 rfl rfl ?_
  refine V.putI fl_X9_60 rfl (tyX0_ok 5 (by decide)) rfl rfl ha1.sh rfl ha1.km dX9_go_2 ?_
  refine V.aload_n 1 dX9_go_5 rfl rfl ?_
  refine V.iconst (v := 1) dX9_go_6 rfl ?_
  refine V.putI fl_X9_123 rfl (tyX0_ok 12 (by decide)) rfl rfl ha1.sh rfl ha1.km dX9_go_7 ?_
  cases hF
  exact V.vret dX9_go_10
/-! MonsterCot.goes -/
theorem dX11_goes_0 : decode cX11_goes 0 = .ok (.aload_n 0, 1) := by decide +kernel
theorem dX11_goes_1 : decode cX11_goes 1 = .ok (.getfield 58, 3) := by decide +kernel
theorem dX11_goes_4 : decode cX11_goes 4 = .ok (.aload_n 0, 1) := by decide +kernel
theorem dX11_goes_5 : decode cX11_goes 5 = .ok (.getfield 65, 3) := by decide +kernel
theorem dX11_goes_8 : decode cX11_goes 8 = .ok (.iload_n 1, 1) := by decide +kernel
theorem dX11_goes_9 : decode cX11_goes 9 = .ok (.invokevirtual 213, 3) := by decide +kernel
theorem dX11_goes_12 : decode cX11_goes 12 = .ok (.ifCond .ne 5, 3) := by decide +kernel
theorem dX11_goes_15 : decode cX11_goes 15 = .ok (.iconst (-1), 1) := by decide +kernel
theorem dX11_goes_16 : decode cX11_goes 16 = .ok (.ireturn, 1) := by decide +kernel
theorem dX11_goes_17 : decode cX11_goes 17 = .ok (.aload_n 0, 1) := by decide +kernel
theorem dX11_goes_18 : decode cX11_goes 18 = .ok (.getfield 75, 3) := by decide +kernel
theorem dX11_goes_21 : decode cX11_goes 21 = .ok (.aload_n 0, 1) := by decide +kernel
theorem dX11_goes_22 : decode cX11_goes 22 = .ok (.getfield 65, 3) := by decide +kernel
theorem dX11_goes_25 : decode cX11_goes 25 = .ok (.invokevirtual 199, 3) := by decide +kernel
theorem dX11_goes_28 : decode cX11_goes 28 = .ok (.aload_n 0, 1) := by decide +kernel
theorem dX11_goes_29 : decode cX11_goes 29 = .ok (.getfield 58, 3) := by decide +kernel
theorem dX11_goes_32 : decode cX11_goes 32 = .ok (.aload_n 0, 1) := by decide +kernel
theorem dX11_goes_33 : decode cX11_goes 33 = .ok (.getfield 65, 3) := by decide +kernel
theorem dX11_goes_36 : decode cX11_goes 36 = .ok (.iload_n 1, 1) := by decide +kernel
theorem dX11_goes_37 : decode cX11_goes 37 = .ok (.invokevirtual 217, 3) := by decide +kernel
theorem dX11_goes_40 : decode cX11_goes 40 = .ok (.aload_n 0, 1) := by decide +kernel
theorem dX11_goes_41 : decode cX11_goes 41 = .ok (.getfield 65, 3) := by decide +kernel
theorem dX11_goes_44 : decode cX11_goes 44 = .ok (.getfield 221, 3) := by decide +kernel
theorem dX11_goes_47 : decode cX11_goes 47 = .ok (.ireturn, 1) := by decide +kernel
def X11_goes (x1 : Int32) (h : Mm) : Option (Int32 × Mm) := (bp (X9_canGo 27 x1 h) (fun r9 => (if r9 = true then (bd (X5_keep 27 h) (fun _ h13 => (bd (X9_go 27 x1 h13) (fun _ h16 => (some ((h16.1 27 5), h16)))))) else (some ((-1 : Int32), h)))))
set_option maxRecDepth 100000 in
set_option maxHeartbeats 4000000 in
theorem s_X11_goes {X : WX} {o : Mm} {x1 : Int32} {rv : Int32} {hz : Mm} {h : Mm} (hF : X11_goes x1 h = some (rv, hz)) : Sat X yX11_goes cX11_goes 2 (some .int) 5 [.ref (xa X 0), .int x1] true o h (some (.int rv)) hz := by
  unfold X11_goes at hF
  refine Sat.mk (own := RX11) rfl (by decide +kernel) (Nat.le_of_ble_eq_true rfl) (fun G => ?_)
  refine V.sub (lv2 := [(0, _), (1, _)]) [0, 1] rfl ?_
  refine V.aload_n 0 dX11_goes_0 rfl rfl ?_
  refine V.getR (v := 26) fl_X11_58 sh_0 rfl fx_0_6 (by decide) dX11_goes_1 ?_
  refine V.aload_n 0 dX11_goes_4 rfl rfl ?_
  refine V.getR (v := 27) fl_X11_65 sh_0 rfl fx_0_7 (by decide) dX11_goes_5 ?_
  refine V.iload_n 1 dX11_goes_8 rfl rfl ?_
  obtain ⟨r9, hc10, hF⟩ := bp_s hF
  refine V.callVi mf_X9_canGo ml_X11_213 sh_26 (s_X9_canGo isb_27 hc10) (by decide) rfl rfl (Nat.le_of_ble_eq_true rfl) dX11_goes_9 ?_
  refine V.ifz_ne (tgt := 17) dX11_goes_12 rfl (fun c => ?_) (fun c => ?_)
  · replace hF := ip c hF
    refine V.aload_n 0 dX11_goes_17 rfl rfl ?_
    refine V.getR (v := 37) fl_X11_75 sh_0 rfl fx_0_9 (by decide) dX11_goes_18 ?_
    refine V.aload_n 0 dX11_goes_21 rfl rfl ?_
    refine V.getR (v := 27) fl_X11_65 sh_0 rfl fx_0_7 (by decide) dX11_goes_22 ?_
    obtain ⟨r11, h13, hc12, hF⟩ := bd_s hF
    refine V.callVv mf_X5_keep ml_X11_199 sh_37 (s_X5_keep isb_27 hc12) (by decide) rfl rfl (Nat.le_of_ble_eq_true rfl) dX11_goes_25 ?_
    refine V.aload_n 0 dX11_goes_28 rfl rfl ?_
    refine V.getR (v := 26) fl_X11_58 sh_0 rfl fx_0_6 (by decide) dX11_goes_29 ?_
    refine V.aload_n 0 dX11_goes_32 rfl rfl ?_
    refine V.getR (v := 27) fl_X11_65 sh_0 rfl fx_0_7 (by decide) dX11_goes_33 ?_
    refine V.iload_n 1 dX11_goes_36 rfl rfl ?_
    obtain ⟨r14, h16, hc15, hF⟩ := bd_s hF
    refine V.callVv mf_X9_go ml_X11_217 sh_26 (s_X9_go isb_27 hc15) (by decide) rfl rfl (Nat.le_of_ble_eq_true rfl) dX11_goes_37 ?_
    refine V.aload_n 0 dX11_goes_40 rfl rfl ?_
    refine V.getR (v := 27) fl_X11_65 sh_0 rfl fx_0_7 (by decide) dX11_goes_41 ?_
    refine V.getI fl_X11_221 sh_27 rfl km_27 dX11_goes_44 ?_
    cases hF
    exact V.iret dX11_goes_47
  · replace hF := iq c hF
    refine V.iconst (v := -1) dX11_goes_15 rfl ?_
    cases hF
    exact V.iret dX11_goes_16
/-! MonsterCot.voice -/
theorem dX11_voice_0 : decode cX11_voice 0 = .ok (.aload_n 0, 1) := by decide +kernel
theorem dX11_voice_1 : decode cX11_voice 1 = .ok (.getfield 42, 3) := by decide +kernel
theorem dX11_voice_4 : decode cX11_voice 4 = .ok (.iload_n 1, 1) := by decide +kernel
theorem dX11_voice_5 : decode cX11_voice 5 = .ok (.invokevirtual 153, 3) := by decide +kernel
theorem dX11_voice_8 : decode cX11_voice 8 = .ok (.ifCond .eq 28, 3) := by decide +kernel
theorem dX11_voice_11 : decode cX11_voice 11 = .ok (.iload_n 2, 1) := by decide +kernel
theorem dX11_voice_12 : decode cX11_voice 12 = .ok (.ifCond .lt 24, 3) := by decide +kernel
theorem dX11_voice_15 : decode cX11_voice 15 = .ok (.iload_n 2, 1) := by decide +kernel
theorem dX11_voice_16 : decode cX11_voice 16 = .ok (.bipush 9, 2) := by decide +kernel
theorem dX11_voice_18 : decode cX11_voice 18 = .ok (.if_icmp .gt 18, 3) := by decide +kernel
theorem dX11_voice_21 : decode cX11_voice 21 = .ok (.aload_n 0, 1) := by decide +kernel
theorem dX11_voice_22 : decode cX11_voice 22 = .ok (.getfield 65, 3) := by decide +kernel
theorem dX11_voice_25 : decode cX11_voice 25 = .ok (.getfield 169, 3) := by decide +kernel
theorem dX11_voice_28 : decode cX11_voice 28 = .ok (.iload_n 1, 1) := by decide +kernel
theorem dX11_voice_29 : decode cX11_voice 29 = .ok (.invokestatic 173, 3) := by decide +kernel
theorem dX11_voice_32 : decode cX11_voice 32 = .ok (.iload_n 2, 1) := by decide +kernel
theorem dX11_voice_33 : decode cX11_voice 33 = .ok (.if_icmp .ne 5, 3) := by decide +kernel
theorem dX11_voice_36 : decode cX11_voice 36 = .ok (.iconst (-1), 1) := by decide +kernel
theorem dX11_voice_37 : decode cX11_voice 37 = .ok (.ireturn, 1) := by decide +kernel
theorem dX11_voice_38 : decode cX11_voice 38 = .ok (.aload_n 0, 1) := by decide +kernel
theorem dX11_voice_39 : decode cX11_voice 39 = .ok (.getfield 75, 3) := by decide +kernel
theorem dX11_voice_42 : decode cX11_voice 42 = .ok (.aload_n 0, 1) := by decide +kernel
theorem dX11_voice_43 : decode cX11_voice 43 = .ok (.getfield 65, 3) := by decide +kernel
theorem dX11_voice_46 : decode cX11_voice 46 = .ok (.invokevirtual 199, 3) := by decide +kernel
theorem dX11_voice_49 : decode cX11_voice 49 = .ok (.aload_n 0, 1) := by decide +kernel
theorem dX11_voice_50 : decode cX11_voice 50 = .ok (.getfield 65, 3) := by decide +kernel
theorem dX11_voice_53 : decode cX11_voice 53 = .ok (.getfield 169, 3) := by decide +kernel
theorem dX11_voice_56 : decode cX11_voice 56 = .ok (.iload_n 1, 1) := by decide +kernel
theorem dX11_voice_57 : decode cX11_voice 57 = .ok (.invokestatic 173, 3) := by decide +kernel
theorem dX11_voice_60 : decode cX11_voice 60 = .ok (.istore_n 3, 1) := by decide +kernel
theorem dX11_voice_61 : decode cX11_voice 61 = .ok (.aload_n 0, 1) := by decide +kernel
theorem dX11_voice_62 : decode cX11_voice 62 = .ok (.getfield 65, 3) := by decide +kernel
theorem dX11_voice_65 : decode cX11_voice 65 = .ok (.getfield 169, 3) := by decide +kernel
theorem dX11_voice_68 : decode cX11_voice 68 = .ok (.iload_n 1, 1) := by decide +kernel
theorem dX11_voice_69 : decode cX11_voice 69 = .ok (.iload_n 2, 1) := by decide +kernel
theorem dX11_voice_70 : decode cX11_voice 70 = .ok (.invokestatic 224, 3) := by decide +kernel
theorem dX11_voice_73 : decode cX11_voice 73 = .ok (.iload_n 3, 1) := by decide +kernel
theorem dX11_voice_74 : decode cX11_voice 74 = .ok (.ireturn, 1) := by decide +kernel
def X11_voice (x1 : Int32) (x2 : Int32) (h : Mm) : Option (Int32 × Mm) := (bp (X1_hasHouse 13 x1 h) (fun r13 => (if r13 = true then (if x2 < 0 then (some ((-1 : Int32), h)) else (if (9 : Int32) < x2 then (some ((-1 : Int32), h)) else (bp (X11_at 30 x1 h) (fun r15 => (if r15 = x2 then (some ((-1 : Int32), h)) else (bd (X5_keep 27 h) (fun _ h19 => (bp (X11_at 30 x1 h19) (fun r20 => (bd (X11_put 30 x1 x2 h19) (fun _ h24 => (some (r20, h24))))))))))))) else (some ((-1 : Int32), h)))))
set_option maxRecDepth 100000 in
set_option maxHeartbeats 4000000 in
theorem s_X11_voice {X : WX} {o : Mm} {x1 : Int32} {x2 : Int32} {rv : Int32} {hz : Mm} {h : Mm} (hF : X11_voice x1 x2 h = some (rv, hz)) : Sat X yX11_voice cX11_voice 4 (some .int) 5 [.ref (xa X 0), .int x1, .int x2] true o h (some (.int rv)) hz := by
  unfold X11_voice at hF
  refine Sat.mk (own := RX11) rfl (by decide +kernel) (Nat.le_of_ble_eq_true rfl) (fun G => ?_)
  refine V.sub (lv2 := [(0, _), (1, _), (2, _)]) [0, 1, 2] rfl ?_
  refine V.aload_n 0 dX11_voice_0 rfl rfl ?_
  refine V.getR (v := 13) fl_X11_42 sh_0 rfl fx_0_4 (by decide) dX11_voice_1 ?_
  refine V.iload_n 1 dX11_voice_4 rfl rfl ?_
  obtain ⟨r13, hc14, hF⟩ := bp_s hF
  refine V.callVi mf_X1_hasHouse ml_X11_153 sh_13 (s_X1_hasHouse (Or.inr rfl) hc14) (by decide) rfl rfl (Nat.le_of_ble_eq_true rfl) dX11_voice_5 ?_
  refine V.ifz_eq (tgt := 36) dX11_voice_8 rfl (fun c => ?_) (fun c => ?_)
  · replace hF := iq c hF
    refine V.iconst (v := -1) dX11_voice_36 rfl ?_
    cases hF
    exact V.iret dX11_voice_37
  · replace hF := ip c hF
    refine V.iload_n 2 dX11_voice_11 rfl rfl ?_
    refine V.if_lt (tgt := 36) dX11_voice_12 rfl (fun c => ?_) (fun c => ?_)
    · replace hF := ip c hF
      refine V.iconst (v := -1) dX11_voice_36 rfl ?_
      cases hF
      exact V.iret dX11_voice_37
    · replace hF := iq c hF
      refine V.iload_n 2 dX11_voice_15 rfl rfl ?_
      refine V.bipush (v := 9) dX11_voice_16 (by decide) ?_
      refine V.icmp_gt (tgt := 36) dX11_voice_18 rfl (fun c => ?_) (fun c => ?_)
      · replace hF := ip c hF
        refine V.iconst (v := -1) dX11_voice_36 rfl ?_
        cases hF
        exact V.iret dX11_voice_37
      · replace hF := iq c hF
        refine V.aload_n 0 dX11_voice_21 rfl rfl ?_
        refine V.getR (v := 27) fl_X11_65 sh_0 rfl fx_0_7 (by decide) dX11_voice_22 ?_
        refine V.getR (v := 30) fl_X11_169 sh_27 rfl fx_27_2 (by decide) dX11_voice_25 ?_
        refine V.iload_n 1 dX11_voice_28 rfl rfl ?_
        obtain ⟨r15, hc16, hF⟩ := bp_s hF
        refine V.callSi mf_X11_at ml_X11_173 (s_X11_at (Or.inl io_30) hc16) (by decide) rfl rfl (Nat.le_of_ble_eq_true rfl) dX11_voice_29 ?_
        refine V.iload_n 2 dX11_voice_32 rfl rfl ?_
        refine V.icmp_ne (tgt := 38) dX11_voice_33 rfl (fun c => ?_) (fun c => ?_)
        · replace hF := iq c hF
          refine V.aload_n 0 dX11_voice_38 rfl rfl ?_
          refine V.getR (v := 37) fl_X11_75 sh_0 rfl fx_0_9 (by decide) dX11_voice_39 ?_
          refine V.aload_n 0 dX11_voice_42 rfl rfl ?_
          refine V.getR (v := 27) fl_X11_65 sh_0 rfl fx_0_7 (by decide) dX11_voice_43 ?_
          obtain ⟨r17, h19, hc18, hF⟩ := bd_s hF
          refine V.callVv mf_X5_keep ml_X11_199 sh_37 (s_X5_keep isb_27 hc18) (by decide) rfl rfl (Nat.le_of_ble_eq_true rfl) dX11_voice_46 ?_
          refine V.aload_n 0 dX11_voice_49 rfl rfl ?_
          refine V.getR (v := 27) fl_X11_65 sh_0 rfl fx_0_7 (by decide) dX11_voice_50 ?_
          refine V.getR (v := 30) fl_X11_169 sh_27 rfl fx_27_2 (by decide) dX11_voice_53 ?_
          refine V.iload_n 1 dX11_voice_56 rfl rfl ?_
          obtain ⟨r20, hc21, hF⟩ := bp_s hF
          refine V.callSi mf_X11_at ml_X11_173 (s_X11_at (Or.inl io_30) hc21) (by decide) rfl rfl (Nat.le_of_ble_eq_true rfl) dX11_voice_57 ?_
          refine V.istore_n [(3, _), (0, _), (1, _), (2, _)] dX11_voice_60 rfl (by decide) rfl ?_
          refine V.aload_n 1 dX11_voice_61 rfl rfl ?_
          refine V.getR (v := 27) fl_X11_65 sh_0 rfl fx_0_7 (by decide) dX11_voice_62 ?_
          refine V.getR (v := 30) fl_X11_169 sh_27 rfl fx_27_2 (by decide) dX11_voice_65 ?_
          refine V.iload_n 2 dX11_voice_68 rfl rfl ?_
          refine V.iload_n 3 dX11_voice_69 rfl rfl ?_
          obtain ⟨r22, h24, hc23, hF⟩ := bd_s hF
          refine V.callSv mf_X11_put ml_X11_224 (s_X11_put io_30 hc23) (by decide) rfl rfl (Nat.le_of_ble_eq_true rfl) dX11_voice_70 ?_
          refine V.iload_n 0 dX11_voice_73 rfl rfl ?_
          cases hF
          exact V.iret dX11_voice_74
        · replace hF := ip c hF
          refine V.iconst (v := -1) dX11_voice_36 rfl ?_
          cases hF
          exact V.iret dX11_voice_37
/-! MonsterCot$Ways.canPass -/
theorem dX9_canPass_0 : decode cX9_canPass 0 = .ok (.aload_n 0, 1) := by decide +kernel
theorem dX9_canPass_1 : decode cX9_canPass 1 = .ok (.getfield 9, 3) := by decide +kernel
theorem dX9_canPass_4 : decode cX9_canPass 4 = .ok (.invokevirtual 112, 3) := by decide +kernel
theorem dX9_canPass_7 : decode cX9_canPass 7 = .ok (.ifCond .eq 17, 3) := by decide +kernel
theorem dX9_canPass_10 : decode cX9_canPass 10 = .ok (.aload_n 1, 1) := by decide +kernel
theorem dX9_canPass_11 : decode cX9_canPass 11 = .ok (.getfield 70, 3) := by decide +kernel
theorem dX9_canPass_14 : decode cX9_canPass 14 = .ok (.sipush 9999, 3) := by decide +kernel
theorem dX9_canPass_17 : decode cX9_canPass 17 = .ok (.if_icmp .ge 7, 3) := by decide +kernel
theorem dX9_canPass_20 : decode cX9_canPass 20 = .ok (.iconst 1, 1) := by decide +kernel
theorem dX9_canPass_21 : decode cX9_canPass 21 = .ok (.goto 4, 3) := by decide +kernel
theorem dX9_canPass_24 : decode cX9_canPass 24 = .ok (.iconst 0, 1) := by decide +kernel
theorem dX9_canPass_25 : decode cX9_canPass 25 = .ok (.ireturn, 1) := by decide +kernel
def X9_canPass (a1 : Nat) (h : Mm) : Option Bool := (bp (X1_stands 13 h) (fun r3 => (if r3 = true then (if (9999 : Int32) ≤ (h.1 a1 6) then (some false) else (some true)) else (some false))))
set_option maxRecDepth 100000 in
set_option maxHeartbeats 4000000 in
theorem s_X9_canPass {X : WX} {o : Mm} {a1 : Nat} {rv : Bool} {h : Mm} (ha1 : isBed a1) (hF : X9_canPass a1 h = some rv) : Sat X yX9_canPass cX9_canPass 2 (some .boolean) 4 [.ref (xa X 26), .ref (xa X a1)] true o h (some (.int (b2i rv))) h := by
  unfold X9_canPass at hF
  refine Sat.mk (own := RX9) rfl (by decide +kernel) (Nat.le_of_ble_eq_true rfl) (fun G => ?_)
  refine V.sub (lv2 := [(0, _), (1, _)]) [0, 1] rfl ?_
  refine V.aload_n 0 dX9_canPass_0 rfl rfl ?_
  refine V.getR (v := 13) fl_X9_9 sh_26 rfl fx_26_0 (by decide) dX9_canPass_1 ?_
  obtain ⟨r3, hc4, hF⟩ := bp_s hF
  refine V.callVi mf_X1_stands ml_X9_112 sh_13 (s_X1_stands (Or.inr rfl) hc4) (by decide) rfl rfl (Nat.le_of_ble_eq_true rfl) dX9_canPass_4 ?_
  refine V.ifz_eq (tgt := 24) dX9_canPass_7 rfl (fun c => ?_) (fun c => ?_)
  · replace hF := iq c hF
    refine V.iconst (v := 0) dX9_canPass_24 rfl ?_
    cases hF
    exact V.bret dX9_canPass_25
  · replace hF := ip c hF
    refine V.aload_n 1 dX9_canPass_10 rfl rfl ?_
    refine V.getI fl_X9_70 ha1.sh rfl ha1.km dX9_canPass_11 ?_
    refine V.sipush (v := 9999) dX9_canPass_14 (by decide) ?_
    refine V.icmp_ge (tgt := 24) dX9_canPass_17 rfl (fun c => ?_) (fun c => ?_)
    · replace hF := ip c hF
      refine V.iconst (v := 0) dX9_canPass_24 rfl ?_
      cases hF
      exact V.bret dX9_canPass_25
    · replace hF := iq c hF
      refine V.iconst (v := 1) dX9_canPass_20 rfl ?_
      refine V.goto (tgt := 25) dX9_canPass_21 rfl ?_
      cases hF
      exact V.bret dX9_canPass_25
/-! MonsterCot$Land.childrenOf -/
theorem dX1_childrenOf_0 : decode cX1_childrenOf 0 = .ok (.aload_n 0, 1) := by decide +kernel
theorem dX1_childrenOf_1 : decode cX1_childrenOf 1 = .ok (.iconst 2, 1) := by decide +kernel
theorem dX1_childrenOf_2 : decode cX1_childrenOf 2 = .ok (.iload_n 1, 1) := by decide +kernel
theorem dX1_childrenOf_3 : decode cX1_childrenOf 3 = .ok (.iconst 0, 1) := by decide +kernel
theorem dX1_childrenOf_4 : decode cX1_childrenOf 4 = .ok (.invokevirtual 60, 3) := by decide +kernel
theorem dX1_childrenOf_7 : decode cX1_childrenOf 7 = .ok (.ireturn, 1) := by decide +kernel
def X1_childrenOf (a0 : Nat) (x1 : Int32) (h : Mm) : Option Int32 := (bp (X1_told a0 (2 : Int32) x1 (0 : Int32) h) (fun r3 => (some r3)))
set_option maxRecDepth 100000 in
set_option maxHeartbeats 4000000 in
theorem s_X1_childrenOf {X : WX} {o : Mm} {a0 : Nat} {x1 : Int32} {rv : Int32} {h : Mm} (ha0 : isLd a0) (hF : X1_childrenOf a0 x1 h = some rv) : Sat X yX1_childrenOf cX1_childrenOf 2 (some .int) 3 [.ref (xa X a0), .int x1] true o h (some (.int rv)) h := by
  unfold X1_childrenOf at hF
  refine Sat.mk (own := RX1) rfl (by decide +kernel) (Nat.le_of_ble_eq_true rfl) (fun G => ?_)
  refine V.sub (lv2 := [(0, _), (1, _)]) [0, 1] rfl ?_
  refine V.aload_n 0 dX1_childrenOf_0 rfl rfl ?_
  refine V.iconst (v := 2) dX1_childrenOf_1 rfl ?_
  refine V.iload_n 1 dX1_childrenOf_2 rfl rfl ?_
  refine V.iconst (v := 0) dX1_childrenOf_3 rfl ?_
  obtain ⟨r3, hc4, hF⟩ := bp_s hF
  refine V.callVi mf_X1_told ml_X1_60 ha0.sh (s_X1_told ha0 hc4) (by decide) rfl rfl (Nat.le_of_ble_eq_true rfl) dX1_childrenOf_4 ?_
  cases hF
  exact V.iret dX1_childrenOf_7
/-! MonsterCot$Ways.calmBehindNight -/
theorem dX9_calmBehindNight_0 : decode cX9_calmBehindNight 0 = .ok (.iload_n 1, 1) := by decide +kernel
theorem dX9_calmBehindNight_1 : decode cX9_calmBehindNight 1 = .ok (.aload_n 0, 1) := by decide +kernel
theorem dX9_calmBehindNight_2 : decode cX9_calmBehindNight 2 = .ok (.getfield 9, 3) := by decide +kernel
theorem dX9_calmBehindNight_5 : decode cX9_calmBehindNight 5 = .ok (.invokevirtual 126, 3) := by decide +kernel
theorem dX9_calmBehindNight_8 : decode cX9_calmBehindNight 8 = .ok (.if_icmp .lt 7, 3) := by decide +kernel
theorem dX9_calmBehindNight_11 : decode cX9_calmBehindNight 11 = .ok (.iconst 0, 1) := by decide +kernel
theorem dX9_calmBehindNight_12 : decode cX9_calmBehindNight 12 = .ok (.goto 4, 3) := by decide +kernel
theorem dX9_calmBehindNight_15 : decode cX9_calmBehindNight 15 = .ok (.iconst 2, 1) := by decide +kernel
theorem dX9_calmBehindNight_16 : decode cX9_calmBehindNight 16 = .ok (.istore_n 2, 1) := by decide +kernel
theorem dX9_calmBehindNight_17 : decode cX9_calmBehindNight 17 = .ok (.iload_n 1, 1) := by decide +kernel
theorem dX9_calmBehindNight_18 : decode cX9_calmBehindNight 18 = .ok (.aload_n 0, 1) := by decide +kernel
theorem dX9_calmBehindNight_19 : decode cX9_calmBehindNight 19 = .ok (.getfield 9, 3) := by decide +kernel
theorem dX9_calmBehindNight_22 : decode cX9_calmBehindNight 22 = .ok (.invokevirtual 130, 3) := by decide +kernel
theorem dX9_calmBehindNight_25 : decode cX9_calmBehindNight 25 = .ok (.isub, 1) := by decide +kernel
theorem dX9_calmBehindNight_26 : decode cX9_calmBehindNight 26 = .ok (.iload_n 2, 1) := by decide +kernel
theorem dX9_calmBehindNight_27 : decode cX9_calmBehindNight 27 = .ok (.isub, 1) := by decide +kernel
theorem dX9_calmBehindNight_28 : decode cX9_calmBehindNight 28 = .ok (.invokestatic 51, 3) := by decide +kernel
theorem dX9_calmBehindNight_31 : decode cX9_calmBehindNight 31 = .ok (.ireturn, 1) := by decide +kernel
def X9_calmBehindNight_16 (x1 : Int32) (s0 : Int32) (h : Mm) : Option Int32 := (bp (X1_loses 13 h) (fun r13 => (bp (X11_heldCalm ((x1 - r13) - s0) h) (fun r15 => (some r15)))))
set_option maxRecDepth 100000 in
set_option maxHeartbeats 4000000 in
theorem v_X9_calmBehindNight_16 {X : WX} {G : GX} {o : Mm} {rv : Int32} {h : Mm} {x1 : Int32} {s0 : Int32} (hF : X9_calmBehindNight_16  x1 s0 h = some rv) : V X G RX9 cX9_calmBehindNight 3 (some .int) 4 0 0 (QR X G true o (some (.int rv)) h) true o 16 [(0, .ref (xa X 26)), (1, .int x1)] [.int s0] h := by
  unfold X9_calmBehindNight_16 at hF
  refine V.istore_n [(2, _), (0, _), (1, _)] dX9_calmBehindNight_16 rfl (by decide) rfl ?_
  refine V.iload_n 2 dX9_calmBehindNight_17 rfl rfl ?_
  refine V.aload_n 1 dX9_calmBehindNight_18 rfl rfl ?_
  refine V.getR (v := 13) fl_X9_9 sh_26 rfl fx_26_0 (by decide) dX9_calmBehindNight_19 ?_
  obtain ⟨r13, hc14, hF⟩ := bp_s hF
  refine V.callVi mf_X1_loses ml_X9_130 sh_13 (s_X1_loses (Or.inr rfl) hc14) (by decide) rfl rfl (Nat.le_of_ble_eq_true rfl) dX9_calmBehindNight_22 ?_
  refine V.isub dX9_calmBehindNight_25 ?_
  refine V.iload_n 0 dX9_calmBehindNight_26 rfl rfl ?_
  refine V.isub dX9_calmBehindNight_27 ?_
  obtain ⟨r15, hc16, hF⟩ := bp_s hF
  refine V.callNi mf_X11_heldCalm ml_X9_51 (s_X11_heldCalm hc16) (by decide) rfl rfl (Nat.le_of_ble_eq_true rfl) dX9_calmBehindNight_28 ?_
  cases hF
  exact V.iret dX9_calmBehindNight_31
def X9_calmBehindNight (x1 : Int32) (h : Mm) : Option Int32 := (bp (X1_enough 13 h) (fun r17 => (if x1 < r17 then (X9_calmBehindNight_16 x1 (2 : Int32) h) else (X9_calmBehindNight_16 x1 (0 : Int32) h))))
set_option maxRecDepth 100000 in
set_option maxHeartbeats 4000000 in
theorem s_X9_calmBehindNight {X : WX} {o : Mm} {x1 : Int32} {rv : Int32} {h : Mm} (hF : X9_calmBehindNight x1 h = some rv) : Sat X yX9_calmBehindNight cX9_calmBehindNight 3 (some .int) 4 [.ref (xa X 26), .int x1] true o h (some (.int rv)) h := by
  unfold X9_calmBehindNight at hF
  refine Sat.mk (own := RX9) rfl (by decide +kernel) (Nat.le_of_ble_eq_true rfl) (fun G => ?_)
  refine V.sub (lv2 := [(0, _), (1, _)]) [0, 1] rfl ?_
  refine V.iload_n 1 dX9_calmBehindNight_0 rfl rfl ?_
  refine V.aload_n 0 dX9_calmBehindNight_1 rfl rfl ?_
  refine V.getR (v := 13) fl_X9_9 sh_26 rfl fx_26_0 (by decide) dX9_calmBehindNight_2 ?_
  obtain ⟨r17, hc18, hF⟩ := bp_s hF
  refine V.callVi mf_X1_enough ml_X9_126 sh_13 (s_X1_enough (Or.inr rfl) hc18) (by decide) rfl rfl (Nat.le_of_ble_eq_true rfl) dX9_calmBehindNight_5 ?_
  refine V.icmp_lt (tgt := 15) dX9_calmBehindNight_8 rfl (fun c => ?_) (fun c => ?_)
  · replace hF := ip c hF
    refine V.iconst (v := 2) dX9_calmBehindNight_15 rfl ?_
    exact (v_X9_calmBehindNight_16 hF)
  · replace hF := iq c hF
    refine V.iconst (v := 0) dX9_calmBehindNight_11 rfl ?_
    refine V.goto (tgt := 16) dX9_calmBehindNight_12 rfl ?_
    exact (v_X9_calmBehindNight_16 hF)
/-! MonsterCot.lessen -/
theorem dX11_lessen_0 : decode cX11_lessen 0 = .ok (.iconst 0, 1) := by decide +kernel
theorem dX11_lessen_1 : decode cX11_lessen 1 = .ok (.istore_n 2, 1) := by decide +kernel
theorem dX11_lessen_2 : decode cX11_lessen 2 = .ok (.iload_n 2, 1) := by decide +kernel
theorem dX11_lessen_3 : decode cX11_lessen 3 = .ok (.aload_n 0, 1) := by decide +kernel
theorem dX11_lessen_4 : decode cX11_lessen 4 = .ok (.arraylength, 1) := by decide +kernel
theorem dX11_lessen_5 : decode cX11_lessen 5 = .ok (.if_icmp .ge 21, 3) := by decide +kernel
theorem dX11_lessen_8 : decode cX11_lessen 8 = .ok (.aload_n 0, 1) := by decide +kernel
theorem dX11_lessen_9 : decode cX11_lessen 9 = .ok (.iload_n 2, 1) := by decide +kernel
theorem dX11_lessen_10 : decode cX11_lessen 10 = .ok (.iconst 0, 1) := by decide +kernel
theorem dX11_lessen_11 : decode cX11_lessen 11 = .ok (.aload_n 0, 1) := by decide +kernel
theorem dX11_lessen_12 : decode cX11_lessen 12 = .ok (.iload_n 2, 1) := by decide +kernel
theorem dX11_lessen_13 : decode cX11_lessen 13 = .ok (.iaload, 1) := by decide +kernel
theorem dX11_lessen_14 : decode cX11_lessen 14 = .ok (.iload_n 1, 1) := by decide +kernel
theorem dX11_lessen_15 : decode cX11_lessen 15 = .ok (.isub, 1) := by decide +kernel
theorem dX11_lessen_16 : decode cX11_lessen 16 = .ok (.invokestatic 438, 3) := by decide +kernel
theorem dX11_lessen_19 : decode cX11_lessen 19 = .ok (.iastore, 1) := by decide +kernel
theorem dX11_lessen_20 : decode cX11_lessen 20 = .ok (.iinc 2 1, 3) := by decide +kernel
theorem dX11_lessen_23 : decode cX11_lessen 23 = .ok (.goto (-21), 3) := by decide +kernel
theorem dX11_lessen_26 : decode cX11_lessen 26 = .ok (.return_, 1) := by decide +kernel
def X11_lessen_2 (n : Nat) (a0 : Nat) : Nat → Int32 → Int32 → Mm → Option (Unit × Mm)
  | 0, _, _, _ => none
  | f + 1, x1, x2, h => (if (Int32.ofNat (aln a0)) ≤ x2 then (some ((), h)) else (if inB x2 (aln a0) then (bp (J9_max_7cf53 (0 : Int32) ((h.1 a0 x2.toNatClampNeg) - x1) h) (fun r5 => (if inB x2 (aln a0) then ((X11_lessen_2 n a0 f) x1 (x2 + (1)) (wI h a0 x2.toNatClampNeg r5)) else none))) else none))
set_option maxRecDepth 100000 in
set_option maxHeartbeats 4000000 in
theorem v_X11_lessen_2 {X : WX} {G : GX} {o : Mm} {n : Nat} {a0 : Nat} {rv : Unit} {hz : Mm} (ha0 : isO true 0 a0) : ∀ (f : Nat) (x1 : Int32) (x2 : Int32) (h : Mm), X11_lessen_2 n a0 f x1 x2 h = some (rv, hz) → V X G RX11 cX11_lessen 3 (none) 2 0 0 (QR X G true o none hz) true o 2 [(0, .ref (xa X a0)), (1, .int x1), (2, .int x2)] [] h := by
  intro f
  induction f with
  | zero => intro x1 x2 h hF; exact nomatch (show (none : Option (Unit × Mm)) = some (rv, hz) from hF)
  | succ f ih =>
    intro x1 x2 h hF
    unfold X11_lessen_2 at hF
    refine V.iload_n 2 dX11_lessen_2 rfl rfl ?_
    refine V.aload_n 0 dX11_lessen_3 rfl rfl ?_
    refine V.alen ha0.1 (by decide) rfl dX11_lessen_4 ?_
    refine V.icmp_ge (tgt := 26) dX11_lessen_5 rfl (fun c => ?_) (fun c => ?_)
    · replace hF := ip c hF
      cases hF
      exact V.vret dX11_lessen_26
    · replace hF := iq c hF
      refine V.aload_n 0 dX11_lessen_8 rfl rfl ?_
      refine V.iload_n 2 dX11_lessen_9 rfl rfl ?_
      refine V.iconst (v := 0) dX11_lessen_10 rfl ?_
      refine V.aload_n 0 dX11_lessen_11 rfl rfl ?_
      refine V.iload_n 2 dX11_lessen_12 rfl rfl ?_
      obtain ⟨hk, hF⟩ := ck hF
      refine V.iald ha0 hk dX11_lessen_13 ?_
      refine V.iload_n 1 dX11_lessen_14 rfl rfl ?_
      refine V.isub dX11_lessen_15 ?_
      obtain ⟨r5, hc6, hF⟩ := bp_s hF
      refine V.callSi mf_J9_max_7cf53 ml_X11_438 (s_J9_max_7cf53 hc6) (by decide) rfl rfl (Nat.le_of_ble_eq_true rfl) dX11_lessen_16 ?_
      obtain ⟨hk, hF⟩ := ck hF
      refine V.iast ha0 hk dX11_lessen_19 ?_
      refine V.iinc (v := (x2 + (1))) 2 [(2, _), (0, _), (1, _)] dX11_lessen_20 rfl rfl (by decide) rfl ?_
      refine V.goto (tgt := 2) dX11_lessen_23 rfl ?_
      exact V.sub [1, 2, 0] rfl (ih _ _ _ hF)
def X11_lessen (n : Nat) (a0 : Nat) (x1 : Int32) (h : Mm) : Option (Unit × Mm) := (X11_lessen_2 n a0 n x1 (0 : Int32) h)
set_option maxRecDepth 100000 in
set_option maxHeartbeats 4000000 in
theorem s_X11_lessen {X : WX} {o : Mm} {n : Nat} {a0 : Nat} {x1 : Int32} {rv : Unit} {hz : Mm} {h : Mm} (ha0 : isO true 0 a0) (hF : X11_lessen n a0 x1 h = some (rv, hz)) : Sat X yX11_lessen cX11_lessen 3 (none) 2 [.ref (xa X a0), .int x1] true o h none hz := by
  unfold X11_lessen at hF
  refine Sat.mk (own := RX11) rfl (by decide +kernel) (Nat.le_of_ble_eq_true rfl) (fun G => ?_)
  refine V.sub (lv2 := [(0, _), (1, _)]) [0, 1] rfl ?_
  refine V.iconst (v := 0) dX11_lessen_0 rfl ?_
  refine V.istore_n [(2, _), (0, _), (1, _)] dX11_lessen_1 rfl (by decide) rfl ?_
  exact V.sub [1, 2, 0] rfl (v_X11_lessen_2 ha0 n _ _ _ hF)
/-! MonsterCot$Ways.pass -/
theorem dX9_pass_0 : decode cX9_pass 0 = .ok (.aload_n 0, 1) := by decide +kernel
theorem dX9_pass_1 : decode cX9_pass 1 = .ok (.getfield 9, 3) := by decide +kernel
theorem dX9_pass_4 : decode cX9_pass 4 = .ok (.aload_n 1, 1) := by decide +kernel
theorem dX9_pass_5 : decode cX9_pass 5 = .ok (.getfield 60, 3) := by decide +kernel
theorem dX9_pass_8 : decode cX9_pass 8 = .ok (.invokevirtual 136, 3) := by decide +kernel
theorem dX9_pass_11 : decode cX9_pass 11 = .ok (.istore_n 2, 1) := by decide +kernel
theorem dX9_pass_12 : decode cX9_pass 12 = .ok (.aload_n 1, 1) := by decide +kernel
theorem dX9_pass_13 : decode cX9_pass 13 = .ok (.getfield 64, 3) := by decide +kernel
theorem dX9_pass_16 : decode cX9_pass 16 = .ok (.aload_n 0, 1) := by decide +kernel
theorem dX9_pass_17 : decode cX9_pass 17 = .ok (.getfield 9, 3) := by decide +kernel
theorem dX9_pass_20 : decode cX9_pass 20 = .ok (.invokevirtual 126, 3) := by decide +kernel
theorem dX9_pass_23 : decode cX9_pass 23 = .ok (.if_icmp .lt 7, 3) := by decide +kernel
theorem dX9_pass_26 : decode cX9_pass 26 = .ok (.iload_n 2, 1) := by decide +kernel
theorem dX9_pass_27 : decode cX9_pass 27 = .ok (.goto 4, 3) := by decide +kernel
theorem dX9_pass_30 : decode cX9_pass 30 = .ok (.iconst 0, 1) := by decide +kernel
theorem dX9_pass_31 : decode cX9_pass 31 = .ok (.istore_n 3, 1) := by decide +kernel
theorem dX9_pass_32 : decode cX9_pass 32 = .ok (.aload_n 1, 1) := by decide +kernel
theorem dX9_pass_33 : decode cX9_pass 33 = .ok (.dup, 1) := by decide +kernel
theorem dX9_pass_34 : decode cX9_pass 34 = .ok (.getfield 139, 3) := by decide +kernel
theorem dX9_pass_37 : decode cX9_pass 37 = .ok (.iload_n 3, 1) := by decide +kernel
theorem dX9_pass_38 : decode cX9_pass 38 = .ok (.iadd, 1) := by decide +kernel
theorem dX9_pass_39 : decode cX9_pass 39 = .ok (.putfield 139, 3) := by decide +kernel
theorem dX9_pass_42 : decode cX9_pass 42 = .ok (.aload_n 1, 1) := by decide +kernel
theorem dX9_pass_43 : decode cX9_pass 43 = .ok (.dup, 1) := by decide +kernel
theorem dX9_pass_44 : decode cX9_pass 44 = .ok (.getfield 142, 3) := by decide +kernel
theorem dX9_pass_47 : decode cX9_pass 47 = .ok (.iload_n 2, 1) := by decide +kernel
theorem dX9_pass_48 : decode cX9_pass 48 = .ok (.iload_n 3, 1) := by decide +kernel
theorem dX9_pass_49 : decode cX9_pass 49 = .ok (.isub, 1) := by decide +kernel
theorem dX9_pass_50 : decode cX9_pass 50 = .ok (.iadd, 1) := by decide +kernel
theorem dX9_pass_51 : decode cX9_pass 51 = .ok (.putfield 142, 3) := by decide +kernel
theorem dX9_pass_54 : decode cX9_pass 54 = .ok (.aload_n 1, 1) := by decide +kernel
theorem dX9_pass_55 : decode cX9_pass 55 = .ok (.aload_n 0, 1) := by decide +kernel
theorem dX9_pass_56 : decode cX9_pass 56 = .ok (.aload_n 1, 1) := by decide +kernel
theorem dX9_pass_57 : decode cX9_pass 57 = .ok (.getfield 64, 3) := by decide +kernel
theorem dX9_pass_60 : decode cX9_pass 60 = .ok (.invokevirtual 145, 3) := by decide +kernel
theorem dX9_pass_63 : decode cX9_pass 63 = .ok (.putfield 64, 3) := by decide +kernel
theorem dX9_pass_66 : decode cX9_pass 66 = .ok (.aload_n 1, 1) := by decide +kernel
theorem dX9_pass_67 : decode cX9_pass 67 = .ok (.getfield 32, 3) := by decide +kernel
theorem dX9_pass_70 : decode cX9_pass 70 = .ok (.bipush 6, 2) := by decide +kernel
theorem dX9_pass_72 : decode cX9_pass 72 = .ok (.invokestatic 148, 3) := by decide +kernel
theorem dX9_pass_75 : decode cX9_pass 75 = .ok (.aload_n 1, 1) := by decide +kernel
theorem dX9_pass_76 : decode cX9_pass 76 = .ok (.getfield 54, 3) := by decide +kernel
theorem dX9_pass_79 : decode cX9_pass 79 = .ok (.iconst 1, 1) := by decide +kernel
theorem dX9_pass_80 : decode cX9_pass 80 = .ok (.invokestatic 148, 3) := by decide +kernel
theorem dX9_pass_83 : decode cX9_pass 83 = .ok (.aload_n 1, 1) := by decide +kernel
theorem dX9_pass_84 : decode cX9_pass 84 = .ok (.getfield 152, 3) := by decide +kernel
theorem dX9_pass_87 : decode cX9_pass 87 = .ok (.aload_n 1, 1) := by decide +kernel
theorem dX9_pass_88 : decode cX9_pass 88 = .ok (.getfield 60, 3) := by decide +kernel
theorem dX9_pass_91 : decode cX9_pass 91 = .ok (.aload_n 1, 1) := by decide +kernel
theorem dX9_pass_92 : decode cX9_pass 92 = .ok (.getfield 152, 3) := by decide +kernel
theorem dX9_pass_95 : decode cX9_pass 95 = .ok (.aload_n 1, 1) := by decide +kernel
theorem dX9_pass_96 : decode cX9_pass 96 = .ok (.getfield 60, 3) := by decide +kernel
theorem dX9_pass_99 : decode cX9_pass 99 = .ok (.invokestatic 38, 3) := by decide +kernel
theorem dX9_pass_102 : decode cX9_pass 102 = .ok (.iconst 1, 1) := by decide +kernel
theorem dX9_pass_103 : decode cX9_pass 103 = .ok (.iadd, 1) := by decide +kernel
theorem dX9_pass_104 : decode cX9_pass 104 = .ok (.invokestatic 92, 3) := by decide +kernel
theorem dX9_pass_107 : decode cX9_pass 107 = .ok (.aload_n 1, 1) := by decide +kernel
theorem dX9_pass_108 : decode cX9_pass 108 = .ok (.aload_n 1, 1) := by decide +kernel
theorem dX9_pass_109 : decode cX9_pass 109 = .ok (.getfield 60, 3) := by decide +kernel
theorem dX9_pass_112 : decode cX9_pass 112 = .ok (.iconst 1, 1) := by decide +kernel
theorem dX9_pass_113 : decode cX9_pass 113 = .ok (.iadd, 1) := by decide +kernel
theorem dX9_pass_114 : decode cX9_pass 114 = .ok (.aload_n 0, 1) := by decide +kernel
theorem dX9_pass_115 : decode cX9_pass 115 = .ok (.getfield 9, 3) := by decide +kernel
theorem dX9_pass_118 : decode cX9_pass 118 = .ok (.invokevirtual 155, 3) := by decide +kernel
theorem dX9_pass_121 : decode cX9_pass 121 = .ok (.if_icmp .ge 12, 3) := by decide +kernel
theorem dX9_pass_124 : decode cX9_pass 124 = .ok (.aload_n 1, 1) := by decide +kernel
theorem dX9_pass_125 : decode cX9_pass 125 = .ok (.getfield 60, 3) := by decide +kernel
theorem dX9_pass_128 : decode cX9_pass 128 = .ok (.iconst 1, 1) := by decide +kernel
theorem dX9_pass_129 : decode cX9_pass 129 = .ok (.iadd, 1) := by decide +kernel
theorem dX9_pass_130 : decode cX9_pass 130 = .ok (.goto 4, 3) := by decide +kernel
theorem dX9_pass_133 : decode cX9_pass 133 = .ok (.iconst 0, 1) := by decide +kernel
theorem dX9_pass_134 : decode cX9_pass 134 = .ok (.putfield 60, 3) := by decide +kernel
theorem dX9_pass_137 : decode cX9_pass 137 = .ok (.aload_n 1, 1) := by decide +kernel
theorem dX9_pass_138 : decode cX9_pass 138 = .ok (.dup, 1) := by decide +kernel
theorem dX9_pass_139 : decode cX9_pass 139 = .ok (.getfield 70, 3) := by decide +kernel
theorem dX9_pass_142 : decode cX9_pass 142 = .ok (.iconst 1, 1) := by decide +kernel
theorem dX9_pass_143 : decode cX9_pass 143 = .ok (.iadd, 1) := by decide +kernel
theorem dX9_pass_144 : decode cX9_pass 144 = .ok (.putfield 70, 3) := by decide +kernel
theorem dX9_pass_147 : decode cX9_pass 147 = .ok (.aload_n 1, 1) := by decide +kernel
theorem dX9_pass_148 : decode cX9_pass 148 = .ok (.invokevirtual 158, 3) := by decide +kernel
theorem dX9_pass_151 : decode cX9_pass 151 = .ok (.iload_n 3, 1) := by decide +kernel
theorem dX9_pass_152 : decode cX9_pass 152 = .ok (.ireturn, 1) := by decide +kernel
def X9_pass_134 (n : Nat) (a1 : Nat) (x3 : Int32) (s1 : Int32) (h : Mm) : Option (Int32 × Mm) := (bd (X0_forgetEvening a1 (wI (wI h a1 5 s1) a1 6 (((wI h a1 5 s1).1 a1 6) + (1 : Int32)))) (fun _ h44 => (some (x3, h44))))
set_option maxRecDepth 100000 in
set_option maxHeartbeats 4000000 in
theorem v_X9_pass_134 {X : WX} {G : GX} {o : Mm} {n : Nat} {a1 : Nat} {rv : Int32} {hz : Mm} (ha1 : isBed a1) {x3 : Int32} {s1 : Int32} {h : Mm} (hF : X9_pass_134 n a1 x3 s1 h = some (rv, hz)) : V X G RX9 cX9_pass 4 (some .int) 5 0 0 (QR X G true o (some (.int rv)) hz) true o 134 [(1, .ref (xa X a1)), (3, .int x3)] [.int s1, .ref (xa X a1)] h := by
  unfold X9_pass_134 at hF
  refine V.putI fl_X9_60 rfl (tyX0_ok 5 (by decide)) rfl rfl ha1.sh rfl ha1.km dX9_pass_134 ?_
  refine V.aload_n 0 dX9_pass_137 rfl rfl ?_
  refine V.dup dX9_pass_138 rfl ?_
  refine V.getI fl_X9_70 ha1.sh rfl ha1.km dX9_pass_139 ?_
  refine V.iconst (v := 1) dX9_pass_142 rfl ?_
  refine V.iadd dX9_pass_143 ?_
  refine V.putI fl_X9_70 rfl (tyX0_ok 6 (by decide)) rfl rfl ha1.sh rfl ha1.km dX9_pass_144 ?_
  refine V.aload_n 0 dX9_pass_147 rfl rfl ?_
  obtain ⟨r42, h44, hc43, hF⟩ := bd_s hF
  refine V.callVv mf_X0_forgetEvening ml_X9_158 ha1.sh (s_X0_forgetEvening ha1 hc43) (by decide) rfl rfl (Nat.le_of_ble_eq_true rfl) dX9_pass_148 ?_
  refine V.iload_n 1 dX9_pass_151 rfl rfl ?_
  cases hF
  exact V.iret dX9_pass_152
def X9_pass_31 (n : Nat) (a1 : Nat) (x2 : Int32) (s0 : Int32) (h : Mm) : Option (Int32 × Mm) := (bp (X9_calmBehindNight ((wI (wI h a1 7 ((h.1 a1 7) + s0)) a1 8 (((wI h a1 7 ((h.1 a1 7) + s0)).1 a1 8) + (x2 - s0))).1 a1 4) (wI (wI h a1 7 ((h.1 a1 7) + s0)) a1 8 (((wI h a1 7 ((h.1 a1 7) + s0)).1 a1 8) + (x2 - s0)))) (fun r45 => (bd (X11_lessen n (a1 + 2) (6 : Int32) (wI (wI (wI h a1 7 ((h.1 a1 7) + s0)) a1 8 (((wI h a1 7 ((h.1 a1 7) + s0)).1 a1 8) + (x2 - s0))) a1 4 r45)) (fun _ h49 => (bd (X11_lessen n (a1 + 1) (1 : Int32) h49) (fun _ h52 => (bp (X11_at (a1 + 4) (h52.1 a1 5) h52) (fun r53 => (bd (X11_put (a1 + 4) (h52.1 a1 5) (r53 + (1 : Int32)) h52) (fun _ h57 => (bp (X1_houses 13 h57) (fun r58 => (if r58 ≤ ((h57.1 a1 5) + (1 : Int32)) then (X9_pass_134 n a1 s0 (0 : Int32) h57) else (X9_pass_134 n a1 s0 ((h57.1 a1 5) + (1 : Int32)) h57))))))))))))))
set_option maxRecDepth 100000 in
set_option maxHeartbeats 4000000 in
theorem v_X9_pass_31 {X : WX} {G : GX} {o : Mm} {n : Nat} {a1 : Nat} {rv : Int32} {hz : Mm} (ha1 : isBed a1) {x2 : Int32} {s0 : Int32} {h : Mm} (hF : X9_pass_31 n a1 x2 s0 h = some (rv, hz)) : V X G RX9 cX9_pass 4 (some .int) 5 0 0 (QR X G true o (some (.int rv)) hz) true o 31 [(0, .ref (xa X 26)), (1, .ref (xa X a1)), (2, .int x2)] [.int s0] h := by
  unfold X9_pass_31 at hF
  refine V.istore_n [(3, _), (0, _), (1, _), (2, _)] dX9_pass_31 rfl (by decide) rfl ?_
  refine V.aload_n 2 dX9_pass_32 rfl rfl ?_
  refine V.dup dX9_pass_33 rfl ?_
  refine V.getI fl_X9_139 ha1.sh rfl ha1.km dX9_pass_34 ?_
  refine V.iload_n 0 dX9_pass_37 rfl rfl ?_
  refine V.iadd dX9_pass_38 ?_
  refine V.putI fl_X9_139 rfl (tyX0_ok 7 (by decide)) rfl rfl ha1.sh rfl ha1.km dX9_pass_39 ?_
  refine V.aload_n 2 dX9_pass_42 rfl rfl ?_
  refine V.dup dX9_pass_43 rfl ?_
  refine V.getI fl_X9_142 ha1.sh rfl ha1.km dX9_pass_44 ?_
  refine V.iload_n 3 dX9_pass_47 rfl rfl ?_
  refine V.iload_n 0 dX9_pass_48 rfl rfl ?_
  refine V.isub dX9_pass_49 ?_
  refine V.iadd dX9_pass_50 ?_
  refine V.putI fl_X9_142 rfl (tyX0_ok 8 (by decide)) rfl rfl ha1.sh rfl ha1.km dX9_pass_51 ?_
  refine V.aload_n 2 dX9_pass_54 rfl rfl ?_
  refine V.aload_n 1 dX9_pass_55 rfl rfl ?_
  refine V.aload_n 2 dX9_pass_56 rfl rfl ?_
  refine V.getI fl_X9_64 ha1.sh rfl ha1.km dX9_pass_57 ?_
  obtain ⟨r45, hc46, hF⟩ := bp_s hF
  refine V.callVi mf_X9_calmBehindNight ml_X9_145 sh_26 (s_X9_calmBehindNight hc46) (by decide) rfl rfl (Nat.le_of_ble_eq_true rfl) dX9_pass_60 ?_
  refine V.putI fl_X9_64 rfl (tyX0_ok 4 (by decide)) rfl rfl ha1.sh rfl ha1.km dX9_pass_63 ?_
  refine V.aload_n 2 dX9_pass_66 rfl rfl ?_
  refine V.getR (v := a1 + 2) fl_X9_32 ha1.sh rfl ha1.fx1 (by have := ha1.lt; omega) dX9_pass_67 ?_
  refine V.bipush (v := 6) dX9_pass_70 (by decide) ?_
  obtain ⟨r47, h49, hc48, hF⟩ := bd_s hF
  refine V.callNv mf_X11_lessen ml_X9_148 (s_X11_lessen ha1.a1 hc48) (by decide) rfl rfl (Nat.le_of_ble_eq_true rfl) dX9_pass_72 ?_
  refine V.aload_n 2 dX9_pass_75 rfl rfl ?_
  refine V.getR (v := a1 + 1) fl_X9_54 ha1.sh rfl ha1.fx0 (by have := ha1.lt; omega) dX9_pass_76 ?_
  refine V.iconst (v := 1) dX9_pass_79 rfl ?_
  obtain ⟨r50, h52, hc51, hF⟩ := bd_s hF
  refine V.callNv mf_X11_lessen ml_X9_148 (s_X11_lessen ha1.a0 hc51) (by decide) rfl rfl (Nat.le_of_ble_eq_true rfl) dX9_pass_80 ?_
  refine V.aload_n 2 dX9_pass_83 rfl rfl ?_
  refine V.getR (v := a1 + 4) fl_X9_152 ha1.sh rfl ha1.fx3 (by have := ha1.lt; omega) dX9_pass_84 ?_
  refine V.aload_n 2 dX9_pass_87 rfl rfl ?_
  refine V.getI fl_X9_60 ha1.sh rfl ha1.km dX9_pass_88 ?_
  refine V.aload_n 2 dX9_pass_91 rfl rfl ?_
  refine V.getR (v := a1 + 4) fl_X9_152 ha1.sh rfl ha1.fx3 (by have := ha1.lt; omega) dX9_pass_92 ?_
  refine V.aload_n 2 dX9_pass_95 rfl rfl ?_
  refine V.getI fl_X9_60 ha1.sh rfl ha1.km dX9_pass_96 ?_
  obtain ⟨r53, hc54, hF⟩ := bp_s hF
  refine V.callNi mf_X11_at ml_X9_38 (s_X11_at (Or.inl ha1.a3) hc54) (by decide) rfl rfl (Nat.le_of_ble_eq_true rfl) dX9_pass_99 ?_
  refine V.iconst (v := 1) dX9_pass_102 rfl ?_
  refine V.iadd dX9_pass_103 ?_
  obtain ⟨r55, h57, hc56, hF⟩ := bd_s hF
  refine V.callNv mf_X11_put ml_X9_92 (s_X11_put ha1.a3 hc56) (by decide) rfl rfl (Nat.le_of_ble_eq_true rfl) dX9_pass_104 ?_
  refine V.aload_n 2 dX9_pass_107 rfl rfl ?_
  refine V.aload_n 2 dX9_pass_108 rfl rfl ?_
  refine V.getI fl_X9_60 ha1.sh rfl ha1.km dX9_pass_109 ?_
  refine V.iconst (v := 1) dX9_pass_112 rfl ?_
  refine V.iadd dX9_pass_113 ?_
  refine V.aload_n 1 dX9_pass_114 rfl rfl ?_
  refine V.getR (v := 13) fl_X9_9 sh_26 rfl fx_26_0 (by decide) dX9_pass_115 ?_
  obtain ⟨r58, hc59, hF⟩ := bp_s hF
  refine V.callVi mf_X1_houses ml_X9_155 sh_13 (s_X1_houses (Or.inr rfl) hc59) (by decide) rfl rfl (Nat.le_of_ble_eq_true rfl) dX9_pass_118 ?_
  refine V.icmp_ge (tgt := 133) dX9_pass_121 rfl (fun c => ?_) (fun c => ?_)
  · replace hF := ip c hF
    refine V.iconst (v := 0) dX9_pass_133 rfl ?_
    exact V.sub [2, 0] rfl (v_X9_pass_134 ha1 hF)
  · replace hF := iq c hF
    refine V.aload_n 2 dX9_pass_124 rfl rfl ?_
    refine V.getI fl_X9_60 ha1.sh rfl ha1.km dX9_pass_125 ?_
    refine V.iconst (v := 1) dX9_pass_128 rfl ?_
    refine V.iadd dX9_pass_129 ?_
    refine V.goto (tgt := 134) dX9_pass_130 rfl ?_
    exact V.sub [2, 0] rfl (v_X9_pass_134 ha1 hF)
def X9_pass (n : Nat) (a1 : Nat) (h : Mm) : Option (Int32 × Mm) := (bp (X1_childrenOf 13 (h.1 a1 5) h) (fun r60 => (bp (X1_enough 13 h) (fun r62 => (if (h.1 a1 4) < r62 then (X9_pass_31 n a1 r60 (0 : Int32) h) else (X9_pass_31 n a1 r60 r60 h))))))
set_option maxRecDepth 100000 in
set_option maxHeartbeats 4000000 in
theorem s_X9_pass {X : WX} {o : Mm} {n : Nat} {a1 : Nat} {rv : Int32} {hz : Mm} {h : Mm} (ha1 : isBed a1) (hF : X9_pass n a1 h = some (rv, hz)) : Sat X yX9_pass cX9_pass 4 (some .int) 5 [.ref (xa X 26), .ref (xa X a1)] true o h (some (.int rv)) hz := by
  unfold X9_pass at hF
  refine Sat.mk (own := RX9) rfl (by decide +kernel) (Nat.le_of_ble_eq_true rfl) (fun G => ?_)
  refine V.sub (lv2 := [(0, _), (1, _)]) [0, 1] rfl ?_
  refine V.aload_n 0 dX9_pass_0 rfl rfl ?_
  refine V.getR (v := 13) fl_X9_9 sh_26 rfl fx_26_0 (by decide) dX9_pass_1 ?_
  refine V.aload_n 1 dX9_pass_4 rfl rfl ?_
  refine V.getI fl_X9_60 ha1.sh rfl ha1.km dX9_pass_5 ?_
  obtain ⟨r60, hc61, hF⟩ := bp_s hF
  refine V.callVi mf_X1_childrenOf ml_X9_136 sh_13 (s_X1_childrenOf (Or.inr rfl) hc61) (by decide) rfl rfl (Nat.le_of_ble_eq_true rfl) dX9_pass_8 ?_
  refine V.istore_n [(2, _), (0, _), (1, _)] dX9_pass_11 rfl (by decide) rfl ?_
  refine V.aload_n 2 dX9_pass_12 rfl rfl ?_
  refine V.getI fl_X9_64 ha1.sh rfl ha1.km dX9_pass_13 ?_
  refine V.aload_n 1 dX9_pass_16 rfl rfl ?_
  refine V.getR (v := 13) fl_X9_9 sh_26 rfl fx_26_0 (by decide) dX9_pass_17 ?_
  obtain ⟨r62, hc63, hF⟩ := bp_s hF
  refine V.callVi mf_X1_enough ml_X9_126 sh_13 (s_X1_enough (Or.inr rfl) hc63) (by decide) rfl rfl (Nat.le_of_ble_eq_true rfl) dX9_pass_20 ?_
  refine V.icmp_lt (tgt := 30) dX9_pass_23 rfl (fun c => ?_) (fun c => ?_)
  · replace hF := ip c hF
    refine V.iconst (v := 0) dX9_pass_30 rfl ?_
    exact V.sub [1, 2, 0] rfl (v_X9_pass_31 ha1 hF)
  · replace hF := iq c hF
    refine V.iload_n 0 dX9_pass_26 rfl rfl ?_
    refine V.goto (tgt := 31) dX9_pass_27 rfl ?_
    exact V.sub [1, 2, 0] rfl (v_X9_pass_31 ha1 hF)
/-! MonsterCot$Past.note -/
theorem dX5_note_0 : decode cX5_note 0 = .ok (.aload_n 1, 1) := by decide +kernel
theorem dX5_note_1 : decode cX5_note 1 = .ok (.getfield 50, 3) := by decide +kernel
theorem dX5_note_4 : decode cX5_note 4 = .ok (.bipush 100, 2) := by decide +kernel
theorem dX5_note_6 : decode cX5_note 6 = .ok (.invokestatic 53, 3) := by decide +kernel
theorem dX5_note_9 : decode cX5_note 9 = .ok (.iconst 3, 1) := by decide +kernel
theorem dX5_note_10 : decode cX5_note 10 = .ok (.imul, 1) := by decide +kernel
theorem dX5_note_11 : decode cX5_note 11 = .ok (.istore 5, 2) := by decide +kernel
theorem dX5_note_13 : decode cX5_note 13 = .ok (.aload_n 0, 1) := by decide +kernel
theorem dX5_note_14 : decode cX5_note 14 = .ok (.getfield 17, 3) := by decide +kernel
theorem dX5_note_17 : decode cX5_note 17 = .ok (.iload 5, 2) := by decide +kernel
theorem dX5_note_19 : decode cX5_note 19 = .ok (.iload_n 2, 1) := by decide +kernel
theorem dX5_note_20 : decode cX5_note 20 = .ok (.invokestatic 56, 3) := by decide +kernel
theorem dX5_note_23 : decode cX5_note 23 = .ok (.aload_n 0, 1) := by decide +kernel
theorem dX5_note_24 : decode cX5_note 24 = .ok (.getfield 17, 3) := by decide +kernel
theorem dX5_note_27 : decode cX5_note 27 = .ok (.iload 5, 2) := by decide +kernel
theorem dX5_note_29 : decode cX5_note 29 = .ok (.iconst 1, 1) := by decide +kernel
theorem dX5_note_30 : decode cX5_note 30 = .ok (.iadd, 1) := by decide +kernel
theorem dX5_note_31 : decode cX5_note 31 = .ok (.iload_n 3, 1) := by decide +kernel
theorem dX5_note_32 : decode cX5_note 32 = .ok (.invokestatic 56, 3) := by decide +kernel
theorem dX5_note_35 : decode cX5_note 35 = .ok (.aload_n 0, 1) := by decide +kernel
theorem dX5_note_36 : decode cX5_note 36 = .ok (.getfield 17, 3) := by decide +kernel
theorem dX5_note_39 : decode cX5_note 39 = .ok (.iload 5, 2) := by decide +kernel
theorem dX5_note_41 : decode cX5_note 41 = .ok (.iconst 2, 1) := by decide +kernel
theorem dX5_note_42 : decode cX5_note 42 = .ok (.iadd, 1) := by decide +kernel
theorem dX5_note_43 : decode cX5_note 43 = .ok (.iload 4, 2) := by decide +kernel
theorem dX5_note_45 : decode cX5_note 45 = .ok (.invokestatic 56, 3) := by decide +kernel
theorem dX5_note_48 : decode cX5_note 48 = .ok (.aload_n 1, 1) := by decide +kernel
theorem dX5_note_49 : decode cX5_note 49 = .ok (.dup, 1) := by decide +kernel
theorem dX5_note_50 : decode cX5_note 50 = .ok (.getfield 50, 3) := by decide +kernel
theorem dX5_note_53 : decode cX5_note 53 = .ok (.iconst 1, 1) := by decide +kernel
theorem dX5_note_54 : decode cX5_note 54 = .ok (.iadd, 1) := by decide +kernel
theorem dX5_note_55 : decode cX5_note 55 = .ok (.putfield 50, 3) := by decide +kernel
theorem dX5_note_58 : decode cX5_note 58 = .ok (.return_, 1) := by decide +kernel
def X5_note (a1 : Nat) (x2 : Int32) (x3 : Int32) (x4 : Int32) (h : Mm) : Option (Unit × Mm) := (bp (J9_floorMod_7cf53 (h.1 a1 10) (100 : Int32) h) (fun r12 => (bd (X11_put 39 (r12 * (3 : Int32)) x2 h) (fun _ h16 => (bd (X11_put 39 ((r12 * (3 : Int32)) + (1 : Int32)) x3 h16) (fun _ h19 => (bd (X11_put 39 ((r12 * (3 : Int32)) + (2 : Int32)) x4 h19) (fun _ h22 => (some ((), (wI h22 a1 10 ((h22.1 a1 10) + (1 : Int32)))))))))))))
set_option maxRecDepth 100000 in
set_option maxHeartbeats 4000000 in
theorem s_X5_note {X : WX} {o : Mm} {a1 : Nat} {x2 : Int32} {x3 : Int32} {x4 : Int32} {rv : Unit} {hz : Mm} {h : Mm} (ha1 : isBed a1) (hF : X5_note a1 x2 x3 x4 h = some (rv, hz)) : Sat X yX5_note cX5_note 6 (none) 2 [.ref (xa X 37), .ref (xa X a1), .int x2, .int x3, .int x4] true o h none hz := by
  unfold X5_note at hF
  refine Sat.mk (own := RX5) rfl (by decide +kernel) (Nat.le_of_ble_eq_true rfl) (fun G => ?_)
  refine V.sub (lv2 := [(0, _), (1, _), (2, _), (3, _), (4, _)]) [0, 1, 2, 3, 4] rfl ?_
  refine V.aload_n 1 dX5_note_0 rfl rfl ?_
  refine V.getI fl_X5_50 ha1.sh rfl ha1.km dX5_note_1 ?_
  refine V.bipush (v := 100) dX5_note_4 (by decide) ?_
  obtain ⟨r12, hc13, hF⟩ := bp_s hF
  refine V.callSi mf_J9_floorMod_7cf53 ml_X5_53 (s_J9_floorMod_7cf53 hc13) (by decide) rfl rfl (Nat.le_of_ble_eq_true rfl) dX5_note_6 ?_
  refine V.iconst (v := 3) dX5_note_9 rfl ?_
  refine V.imul dX5_note_10 ?_
  refine V.istore [(5, _), (0, _), (1, _), (2, _), (3, _), (4, _)] dX5_note_11 (by decide) rfl ?_
  refine V.aload_n 1 dX5_note_13 rfl rfl ?_
  refine V.getR (v := 39) fl_X5_17 sh_37 rfl fx_37_1 (by decide) dX5_note_14 ?_
  refine V.iload 0 dX5_note_17 rfl ?_
  refine V.iload_n 3 dX5_note_19 rfl rfl ?_
  obtain ⟨r14, h16, hc15, hF⟩ := bd_s hF
  refine V.callNv mf_X11_put ml_X5_56 (s_X11_put io_39 hc15) (by decide) rfl rfl (Nat.le_of_ble_eq_true rfl) dX5_note_20 ?_
  refine V.aload_n 1 dX5_note_23 rfl rfl ?_
  refine V.getR (v := 39) fl_X5_17 sh_37 rfl fx_37_1 (by decide) dX5_note_24 ?_
  refine V.iload 0 dX5_note_27 rfl ?_
  refine V.iconst (v := 1) dX5_note_29 rfl ?_
  refine V.iadd dX5_note_30 ?_
  refine V.iload_n 4 dX5_note_31 rfl rfl ?_
  obtain ⟨r17, h19, hc18, hF⟩ := bd_s hF
  refine V.callNv mf_X11_put ml_X5_56 (s_X11_put io_39 hc18) (by decide) rfl rfl (Nat.le_of_ble_eq_true rfl) dX5_note_32 ?_
  refine V.aload_n 1 dX5_note_35 rfl rfl ?_
  refine V.getR (v := 39) fl_X5_17 sh_37 rfl fx_37_1 (by decide) dX5_note_36 ?_
  refine V.iload 0 dX5_note_39 rfl ?_
  refine V.iconst (v := 2) dX5_note_41 rfl ?_
  refine V.iadd dX5_note_42 ?_
  refine V.iload 5 dX5_note_43 rfl ?_
  obtain ⟨r20, h22, hc21, hF⟩ := bd_s hF
  refine V.callNv mf_X11_put ml_X5_56 (s_X11_put io_39 hc21) (by decide) rfl rfl (Nat.le_of_ble_eq_true rfl) dX5_note_45 ?_
  refine V.aload_n 2 dX5_note_48 rfl rfl ?_
  refine V.dup dX5_note_49 rfl ?_
  refine V.getI fl_X5_50 ha1.sh rfl ha1.km dX5_note_50 ?_
  refine V.iconst (v := 1) dX5_note_53 rfl ?_
  refine V.iadd dX5_note_54 ?_
  refine V.putI fl_X5_50 rfl (tyX0_ok 10 (by decide)) rfl rfl ha1.sh rfl ha1.km dX5_note_55 ?_
  cases hF
  exact V.vret dX5_note_58
