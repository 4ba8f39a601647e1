/-! MonsterCotModel.atom -/
theorem dX12_atom_0 : decode cX12_atom 0 = .ok (.aload_n 0, 1) := by decide +kernel
theorem dX12_atom_1 : decode cX12_atom 1 = .ok (.invokevirtual 135, 3) := by decide +kernel
theorem dX12_atom_4 : decode cX12_atom 4 = .ok (.istore_n 1, 1) := by decide +kernel
theorem dX12_atom_5 : decode cX12_atom 5 = .ok (.ldc 32, 2) := by decide +kernel
theorem dX12_atom_7 : decode cX12_atom 7 = .ok (.iload_n 1, 1) := by decide +kernel
theorem dX12_atom_8 : decode cX12_atom 8 = .ok (.invokestatic 151, 3) := by decide +kernel
theorem dX12_atom_11 : decode cX12_atom 11 = .ok (.ifCond .eq 20, 3) := by decide +kernel
theorem dX12_atom_14 : decode cX12_atom 14 = .ok (.aload_n 0, 1) := by decide +kernel
theorem dX12_atom_15 : decode cX12_atom 15 = .ok (.dup, 1) := by decide +kernel
theorem dX12_atom_16 : decode cX12_atom 16 = .ok (.getfield 116, 3) := by decide +kernel
theorem dX12_atom_19 : decode cX12_atom 19 = .ok (.iconst 1, 1) := by decide +kernel
theorem dX12_atom_20 : decode cX12_atom 20 = .ok (.iadd, 1) := by decide +kernel
theorem dX12_atom_21 : decode cX12_atom 21 = .ok (.putfield 116, 3) := by decide +kernel
theorem dX12_atom_24 : decode cX12_atom 24 = .ok (.aload_n 0, 1) := by decide +kernel
theorem dX12_atom_25 : decode cX12_atom 25 = .ok (.getfield 20, 3) := by decide +kernel
theorem dX12_atom_28 : decode cX12_atom 28 = .ok (.iload_n 1, 1) := by decide +kernel
theorem dX12_atom_29 : decode cX12_atom 29 = .ok (.iaload, 1) := by decide +kernel
theorem dX12_atom_30 : decode cX12_atom 30 = .ok (.ireturn, 1) := by decide +kernel
theorem dX12_atom_31 : decode cX12_atom 31 = .ok (.iload_n 1, 1) := by decide +kernel
theorem dX12_atom_32 : decode cX12_atom 32 = .ok (.bipush 91, 2) := by decide +kernel
theorem dX12_atom_34 : decode cX12_atom 34 = .ok (.if_icmp .ne 40, 3) := by decide +kernel
theorem dX12_atom_37 : decode cX12_atom 37 = .ok (.aload_n 0, 1) := by decide +kernel
theorem dX12_atom_38 : decode cX12_atom 38 = .ok (.invokevirtual 155, 3) := by decide +kernel
theorem dX12_atom_41 : decode cX12_atom 41 = .ok (.ifCond .ne 5, 3) := by decide +kernel
theorem dX12_atom_44 : decode cX12_atom 44 = .ok (.iconst 0, 1) := by decide +kernel
theorem dX12_atom_45 : decode cX12_atom 45 = .ok (.ireturn, 1) := by decide +kernel
theorem dX12_atom_46 : decode cX12_atom 46 = .ok (.aload_n 0, 1) := by decide +kernel
theorem dX12_atom_47 : decode cX12_atom 47 = .ok (.invokevirtual 158, 3) := by decide +kernel
theorem dX12_atom_50 : decode cX12_atom 50 = .ok (.istore_n 2, 1) := by decide +kernel
theorem dX12_atom_51 : decode cX12_atom 51 = .ok (.aload_n 0, 1) := by decide +kernel
theorem dX12_atom_52 : decode cX12_atom 52 = .ok (.bipush 93, 2) := by decide +kernel
theorem dX12_atom_54 : decode cX12_atom 54 = .ok (.invokevirtual 161, 3) := by decide +kernel
theorem dX12_atom_57 : decode cX12_atom 57 = .ok (.ifCond .ne 5, 3) := by decide +kernel
theorem dX12_atom_60 : decode cX12_atom 60 = .ok (.iconst 0, 1) := by decide +kernel
theorem dX12_atom_61 : decode cX12_atom 61 = .ok (.ireturn, 1) := by decide +kernel
theorem dX12_atom_62 : decode cX12_atom 62 = .ok (.aload_n 0, 1) := by decide +kernel
theorem dX12_atom_63 : decode cX12_atom 63 = .ok (.dup, 1) := by decide +kernel
theorem dX12_atom_64 : decode cX12_atom 64 = .ok (.getfield 128, 3) := by decide +kernel
theorem dX12_atom_67 : decode cX12_atom 67 = .ok (.iconst 1, 1) := by decide +kernel
theorem dX12_atom_68 : decode cX12_atom 68 = .ok (.isub, 1) := by decide +kernel
theorem dX12_atom_69 : decode cX12_atom 69 = .ok (.putfield 128, 3) := by decide +kernel
theorem dX12_atom_72 : decode cX12_atom 72 = .ok (.iload_n 2, 1) := by decide +kernel
theorem dX12_atom_73 : decode cX12_atom 73 = .ok (.ireturn, 1) := by decide +kernel
theorem dX12_atom_74 : decode cX12_atom 74 = .ok (.aload_n 0, 1) := by decide +kernel
theorem dX12_atom_75 : decode cX12_atom 75 = .ok (.invokevirtual 165, 3) := by decide +kernel
theorem dX12_atom_78 : decode cX12_atom 78 = .ok (.ifCond .ne 8, 3) := by decide +kernel
theorem dX12_atom_81 : decode cX12_atom 81 = .ok (.aload_n 0, 1) := by decide +kernel
theorem dX12_atom_82 : decode cX12_atom 82 = .ok (.invokevirtual 131, 3) := by decide +kernel
theorem dX12_atom_85 : decode cX12_atom 85 = .ok (.pop, 1) := by decide +kernel
theorem dX12_atom_86 : decode cX12_atom 86 = .ok (.iconst 0, 1) := by decide +kernel
theorem dX12_atom_87 : decode cX12_atom 87 = .ok (.istore_n 2, 1) := by decide +kernel
theorem dX12_atom_88 : decode cX12_atom 88 = .ok (.iconst 0, 1) := by decide +kernel
theorem dX12_atom_89 : decode cX12_atom 89 = .ok (.istore_n 3, 1) := by decide +kernel
theorem dX12_atom_90 : decode cX12_atom 90 = .ok (.aload_n 0, 1) := by decide +kernel
theorem dX12_atom_91 : decode cX12_atom 91 = .ok (.invokevirtual 165, 3) := by decide +kernel
theorem dX12_atom_94 : decode cX12_atom 94 = .ok (.ifCond .eq 62, 3) := by decide +kernel
theorem dX12_atom_97 : decode cX12_atom 97 = .ok (.aload_n 0, 1) := by decide +kernel
theorem dX12_atom_98 : decode cX12_atom 98 = .ok (.getfield 125, 3) := by decide +kernel
theorem dX12_atom_101 : decode cX12_atom 101 = .ok (.iconst (-1), 1) := by decide +kernel
theorem dX12_atom_102 : decode cX12_atom 102 = .ok (.if_icmp .ne 54, 3) := by decide +kernel
theorem dX12_atom_105 : decode cX12_atom 105 = .ok (.iload_n 3, 1) := by decide +kernel
theorem dX12_atom_106 : decode cX12_atom 106 = .ok (.iconst 4, 1) := by decide +kernel
theorem dX12_atom_107 : decode cX12_atom 107 = .ok (.if_icmp .ne 10, 3) := by decide +kernel
theorem dX12_atom_110 : decode cX12_atom 110 = .ok (.aload_n 0, 1) := by decide +kernel
theorem dX12_atom_111 : decode cX12_atom 111 = .ok (.invokevirtual 131, 3) := by decide +kernel
theorem dX12_atom_114 : decode cX12_atom 114 = .ok (.pop, 1) := by decide +kernel
theorem dX12_atom_115 : decode cX12_atom 115 = .ok (.iconst 0, 1) := by decide +kernel
theorem dX12_atom_116 : decode cX12_atom 116 = .ok (.ireturn, 1) := by decide +kernel
theorem dX12_atom_117 : decode cX12_atom 117 = .ok (.bipush 10, 2) := by decide +kernel
theorem dX12_atom_119 : decode cX12_atom 119 = .ok (.iload_n 2, 1) := by decide +kernel
theorem dX12_atom_120 : decode cX12_atom 120 = .ok (.imul, 1) := by decide +kernel
theorem dX12_atom_121 : decode cX12_atom 121 = .ok (.aload_n 0, 1) := by decide +kernel
theorem dX12_atom_122 : decode cX12_atom 122 = .ok (.getfield 23, 3) := by decide +kernel
theorem dX12_atom_125 : decode cX12_atom 125 = .ok (.aload_n 0, 1) := by decide +kernel
theorem dX12_atom_126 : decode cX12_atom 126 = .ok (.getfield 122, 3) := by decide +kernel
theorem dX12_atom_129 : decode cX12_atom 129 = .ok (.aload_n 0, 1) := by decide +kernel
theorem dX12_atom_130 : decode cX12_atom 130 = .ok (.getfield 116, 3) := by decide +kernel
theorem dX12_atom_133 : decode cX12_atom 133 = .ok (.iadd, 1) := by decide +kernel
theorem dX12_atom_134 : decode cX12_atom 134 = .ok (.baload, 1) := by decide +kernel
theorem dX12_atom_135 : decode cX12_atom 135 = .ok (.iadd, 1) := by decide +kernel
theorem dX12_atom_136 : decode cX12_atom 136 = .ok (.bipush 48, 2) := by decide +kernel
theorem dX12_atom_138 : decode cX12_atom 138 = .ok (.isub, 1) := by decide +kernel
theorem dX12_atom_139 : decode cX12_atom 139 = .ok (.istore_n 2, 1) := by decide +kernel
theorem dX12_atom_140 : decode cX12_atom 140 = .ok (.aload_n 0, 1) := by decide +kernel
theorem dX12_atom_141 : decode cX12_atom 141 = .ok (.dup, 1) := by decide +kernel
theorem dX12_atom_142 : decode cX12_atom 142 = .ok (.getfield 116, 3) := by decide +kernel
theorem dX12_atom_145 : decode cX12_atom 145 = .ok (.iconst 1, 1) := by decide +kernel
theorem dX12_atom_146 : decode cX12_atom 146 = .ok (.iadd, 1) := by decide +kernel
theorem dX12_atom_147 : decode cX12_atom 147 = .ok (.putfield 116, 3) := by decide +kernel
theorem dX12_atom_150 : decode cX12_atom 150 = .ok (.iinc 3 1, 3) := by decide +kernel
theorem dX12_atom_153 : decode cX12_atom 153 = .ok (.goto (-63), 3) := by decide +kernel
theorem dX12_atom_156 : decode cX12_atom 156 = .ok (.iload_n 2, 1) := by decide +kernel
theorem dX12_atom_157 : decode cX12_atom 157 = .ok (.ireturn, 1) := by decide +kernel
def X12_atom_156 (n : Nat) (rf : Mm → Option (Int32 × Mm)) (x2 : Int32) (h : Mm) : Option (Int32 × Mm) := (some (x2, h))
set_option maxRecDepth 100000 in
set_option maxHeartbeats 4000000 in
theorem v_X12_atom_156 {X : WX} {G : GX} {o : Mm} {n : Nat} {rf : Mm → Option (Int32 × Mm)} {dr : Nat} (hdr : 7 ≤ dr) (hrf : ∀   (h : Mm) (r : Int32) (h2 : Mm), rf  h = some (r, h2) → Sat X yX12_atom cX12_atom 4 (some .int) dr [.ref (xa X 251)] false o h (some (.int r)) h2) {DD : Nat} (hDD : dr + 3 ≤ DD) {rv : Int32} {hz : Mm} {x2 : Int32} {h : Mm} (hF : X12_atom_156 n rf x2 h = some (rv, hz)) : V X G RX12 cX12_atom 4 (some .int) DD 0 0 (QR X G false o (some (.int rv)) hz) false o 156 [(2, .int x2)] [] h := by
  unfold X12_atom_156 at hF
  refine V.iload_n 0 dX12_atom_156 rfl rfl ?_
  cases hF
  exact V.iret dX12_atom_157
def X12_atom_90 (n : Nat) (rf : Mm → Option (Int32 × Mm)) : Nat → Int32 → Int32 → Mm → Option (Int32 × Mm)
  | 0, _, _, _ => none
  | f + 1, x2, x3, h => (bp (X12_isDigit h) (fun r95 => (if r95 = true then (if (h.1 251 11) = (-1 : Int32) then (if x3 = (4 : Int32) then (bd (X12_fails h) (fun r98 h100 => (some ((0 : Int32), h100)))) else (bp (txt (h.1 251 5)) (fun t97 => (if inB ((h.1 251 8) + (h.1 251 10)) (aln t97) then ((X12_atom_90 n rf f) ((((10 : Int32) * x2) + (h.1 t97 ((h.1 251 8) + (h.1 251 10)).toNatClampNeg)) - (48 : Int32)) (x3 + (1)) (wI h 251 10 ((h.1 251 10) + (1 : Int32)))) else none)))) else (X12_atom_156 n rf x2 h)) else (X12_atom_156 n rf x2 h))))
set_option maxRecDepth 100000 in
set_option maxHeartbeats 4000000 in
theorem v_X12_atom_90 {X : WX} {G : GX} {o : Mm} {n : Nat} {rf : Mm → Option (Int32 × Mm)} {dr : Nat} (hdr : 7 ≤ dr) (hrf : ∀   (h : Mm) (r : Int32) (h2 : Mm), rf  h = some (r, h2) → Sat X yX12_atom cX12_atom 4 (some .int) dr [.ref (xa X 251)] false o h (some (.int r)) h2) {DD : Nat} (hDD : dr + 3 ≤ DD) {rv : Int32} {hz : Mm} : ∀ (f : Nat) (x2 : Int32) (x3 : Int32) (h : Mm), X12_atom_90 n rf f x2 x3 h = some (rv, hz) → V X G RX12 cX12_atom 4 (some .int) DD 0 0 (QR X G false o (some (.int rv)) hz) false o 90 [(0, .ref (xa X 251)), (2, .int x2), (3, .int x3)] [] h := by
  intro f
  induction f with
  | zero => intro x2 x3 h hF; exact nomatch (show (none : Option (Int32 × Mm)) = some (rv, hz) from hF)
  | succ f ih =>
    intro x2 x3 h hF
    unfold X12_atom_90 at hF
    refine V.aload_n 0 dX12_atom_90 rfl rfl ?_
    obtain ⟨r95, hc96, hF⟩ := bp_s hF
    refine V.callVi mf_X12_isDigit ml_X12_165 sh_251 (s_X12_isDigit hc96) (by omega) rfl rfl (Nat.le_of_ble_eq_true rfl) dX12_atom_91 ?_
    refine V.ifz_eq (tgt := 156) dX12_atom_94 rfl (fun c => ?_) (fun c => ?_)
    · replace hF := iq c hF
      exact V.sub [1] rfl (v_X12_atom_156 hdr hrf hDD hF)
    · replace hF := ip c hF
      refine V.aload_n 0 dX12_atom_97 rfl rfl ?_
      refine V.getI fl_X12_125 sh_251 rfl km_251 dX12_atom_98 ?_
      refine V.iconst (v := -1) dX12_atom_101 rfl ?_
      refine V.icmp_ne (tgt := 156) dX12_atom_102 rfl (fun c => ?_) (fun c => ?_)
      · replace hF := iq c hF
        exact V.sub [1] rfl (v_X12_atom_156 hdr hrf hDD hF)
      · replace hF := ip c hF
        refine V.iload_n 2 dX12_atom_105 rfl rfl ?_
        refine V.iconst (v := 4) dX12_atom_106 rfl ?_
        refine V.icmp_ne (tgt := 117) dX12_atom_107 rfl (fun c => ?_) (fun c => ?_)
        · replace hF := iq c hF
          refine V.bipush (v := 10) dX12_atom_117 (by decide) ?_
          refine V.iload_n 1 dX12_atom_119 rfl rfl ?_
          refine V.imul dX12_atom_120 ?_
          refine V.aload_n 0 dX12_atom_121 rfl rfl ?_
          obtain ⟨t97, htt97, hF⟩ := bp_s hF
          refine V.getN fl_X12_23 sh_251 rfl km_251 t97 (txt_s htt97).1 (txt_s htt97).2.lt2 dX12_atom_122 ?_
          refine V.aload_n 0 dX12_atom_125 rfl rfl ?_
          refine V.getI fl_X12_122 sh_251 rfl km_251 dX12_atom_126 ?_
          refine V.aload_n 0 dX12_atom_129 rfl rfl ?_
          refine V.getI fl_X12_116 sh_251 rfl km_251 dX12_atom_130 ?_
          refine V.iadd dX12_atom_133 ?_
          obtain ⟨hk, hF⟩ := ck hF
          refine V.bald (txt_s htt97).2 hk dX12_atom_134 ?_
          refine V.iadd dX12_atom_135 ?_
          refine V.bipush (v := 48) dX12_atom_136 (by decide) ?_
          refine V.isub dX12_atom_138 ?_
          refine V.istore_n [(2, _), (0, _), (3, _)] dX12_atom_139 rfl (by decide) rfl ?_
          refine V.aload_n 1 dX12_atom_140 rfl rfl ?_
          refine V.dup dX12_atom_141 rfl ?_
          refine V.getI fl_X12_116 sh_251 rfl km_251 dX12_atom_142 ?_
          refine V.iconst (v := 1) dX12_atom_145 rfl ?_
          refine V.iadd dX12_atom_146 ?_
          refine V.putI fl_X12_116 rfl (tyX12_ok 10 (by decide)) rfl rfl sh_251 rfl km_251 dX12_atom_147 ?_
          refine V.iinc (v := (x3 + (1))) 2 [(3, _), (2, _), (0, _)] dX12_atom_150 rfl rfl (by decide) rfl ?_
          refine V.goto (tgt := 90) dX12_atom_153 rfl ?_
          exact V.sub [2, 1, 0] rfl (ih _ _ _ hF)
        · replace hF := ip c hF
          refine V.aload_n 0 dX12_atom_110 rfl rfl ?_
          obtain ⟨r98, h100, hc99, hF⟩ := bd_s hF
          refine V.callVi mf_X12_fails ml_X12_131 sh_251 (s_X12_fails hc99) (by omega) rfl rfl (Nat.le_of_ble_eq_true rfl) dX12_atom_111 ?_
          refine V.pop dX12_atom_114 rfl ?_
          refine V.iconst (v := 0) dX12_atom_115 rfl ?_
          cases hF
          exact V.iret dX12_atom_116
def X12_atom_86 (n : Nat) (rf : Mm → Option (Int32 × Mm)) (h : Mm) : Option (Int32 × Mm) := (X12_atom_90 n rf n (0 : Int32) (0 : Int32) h)
set_option maxRecDepth 100000 in
set_option maxHeartbeats 4000000 in
theorem v_X12_atom_86 {X : WX} {G : GX} {o : Mm} {n : Nat} {rf : Mm → Option (Int32 × Mm)} {dr : Nat} (hdr : 7 ≤ dr) (hrf : ∀   (h : Mm) (r : Int32) (h2 : Mm), rf  h = some (r, h2) → Sat X yX12_atom cX12_atom 4 (some .int) dr [.ref (xa X 251)] false o h (some (.int r)) h2) {DD : Nat} (hDD : dr + 3 ≤ DD) {rv : Int32} {hz : Mm} {h : Mm} (hF : X12_atom_86 n rf h = some (rv, hz)) : V X G RX12 cX12_atom 4 (some .int) DD 0 0 (QR X G false o (some (.int rv)) hz) false o 86 [(0, .ref (xa X 251))] [] h := by
  unfold X12_atom_86 at hF
  refine V.iconst (v := 0) dX12_atom_86 rfl ?_
  refine V.istore_n [(2, _), (0, _)] dX12_atom_87 rfl (by decide) rfl ?_
  refine V.iconst (v := 0) dX12_atom_88 rfl ?_
  refine V.istore_n [(3, _), (2, _), (0, _)] dX12_atom_89 rfl (by decide) rfl ?_
  exact V.sub [2, 1, 0] rfl (v_X12_atom_90 hdr hrf hDD n _ _ _ hF)
def X12_atom_b (n : Nat) (rf : Mm → Option (Int32 × Mm)) (h : Mm) : Option (Int32 × Mm) := (bd (X12_look n h) (fun r101 h103 => (bp (X12_isAmong n 1032 r101 h103) (fun r104 => (if r104 = true then (if inB r101 (aln 255) then (some (((wI h103 251 10 ((h103.1 251 10) + (1 : Int32))).1 255 r101.toNatClampNeg), (wI h103 251 10 ((h103.1 251 10) + (1 : Int32))))) else none) else (if r101 = (91 : Int32) then (bd (X12_goesIn h103) (fun r111 h113 => (if r111 = true then (bd (X12_sum n rf h113) (fun r114 h116 => (bd (X12_takes n (93 : Int32) h116) (fun r117 h119 => (if r117 = true then (some (r114, (wI h119 251 12 ((h119.1 251 12) - (1 : Int32))))) else (some ((0 : Int32), h119))))))) else (some ((0 : Int32), h113))))) else (bp (X12_isDigit h103) (fun r106 => (if r106 = true then (X12_atom_86 n rf h103) else (bd (X12_fails h103) (fun r108 h110 => (X12_atom_86 n rf h110))))))))))))
set_option maxRecDepth 100000 in
set_option maxHeartbeats 4000000 in
theorem s_X12_atom_b {X : WX} {o : Mm} {n : Nat} {rf : Mm → Option (Int32 × Mm)} {dr : Nat} (hdr : 7 ≤ dr) (hrf : ∀   (h : Mm) (r : Int32) (h2 : Mm), rf  h = some (r, h2) → Sat X yX12_atom cX12_atom 4 (some .int) dr [.ref (xa X 251)] false o h (some (.int r)) h2) {DD : Nat} (hDD : dr + 3 ≤ DD) {rv : Int32} {hz : Mm} {h : Mm} (hF : X12_atom_b n rf h = some (rv, hz)) : Sat X yX12_atom cX12_atom 4 (some .int) DD [.ref (xa X 251)] false o h (some (.int rv)) hz := by
  unfold X12_atom_b at hF
  refine Sat.mk (own := RX12) rfl (by decide +kernel) (Nat.le_of_ble_eq_true rfl) (fun G => ?_)
  refine V.sub (lv2 := [(0, _)]) [0] rfl ?_
  refine V.aload_n 0 dX12_atom_0 rfl rfl ?_
  obtain ⟨r101, h103, hc102, hF⟩ := bd_s hF
  refine V.callVi mf_X12_look ml_X12_135 sh_251 (s_X12_look hc102) (by omega) rfl rfl (Nat.le_of_ble_eq_true rfl) dX12_atom_1 ?_
  refine V.istore_n [(1, _), (0, _)] dX12_atom_4 rfl (by decide) rfl ?_
  refine V.ldcS sc_1032 rfl rfl dX12_atom_5 ?_
  refine V.iload_n 0 dX12_atom_7 rfl rfl ?_
  obtain ⟨r104, hc105, hF⟩ := bp_s hF
  refine V.callSi mf_X12_isAmong ml_X12_151 (s_X12_isAmong ⟨by decide, by decide⟩ hc105) (by omega) rfl rfl (Nat.le_of_ble_eq_true rfl) dX12_atom_8 ?_
  refine V.ifz_eq (tgt := 31) dX12_atom_11 rfl (fun c => ?_) (fun c => ?_)
  · replace hF := iq c hF
    refine V.iload_n 0 dX12_atom_31 rfl rfl ?_
    refine V.bipush (v := 91) dX12_atom_32 (by decide) ?_
    refine V.icmp_ne (tgt := 74) dX12_atom_34 rfl (fun c => ?_) (fun c => ?_)
    · replace hF := iq c hF
      refine V.aload_n 1 dX12_atom_74 rfl rfl ?_
      obtain ⟨r106, hc107, hF⟩ := bp_s hF
      refine V.callVi mf_X12_isDigit ml_X12_165 sh_251 (s_X12_isDigit hc107) (by omega) rfl rfl (Nat.le_of_ble_eq_true rfl) dX12_atom_75 ?_
      refine V.ifz_ne (tgt := 86) dX12_atom_78 rfl (fun c => ?_) (fun c => ?_)
      · replace hF := ip c hF
        exact V.sub [1] rfl (v_X12_atom_86 hdr hrf hDD hF)
      · replace hF := iq c hF
        refine V.aload_n 1 dX12_atom_81 rfl rfl ?_
        obtain ⟨r108, h110, hc109, hF⟩ := bd_s hF
        refine V.callVi mf_X12_fails ml_X12_131 sh_251 (s_X12_fails hc109) (by omega) rfl rfl (Nat.le_of_ble_eq_true rfl) dX12_atom_82 ?_
        refine V.pop dX12_atom_85 rfl ?_
        exact V.sub [1] rfl (v_X12_atom_86 hdr hrf hDD hF)
    · replace hF := ip c hF
      refine V.aload_n 1 dX12_atom_37 rfl rfl ?_
      obtain ⟨r111, h113, hc112, hF⟩ := bd_s hF
      refine V.callVi mf_X12_goesIn ml_X12_155 sh_251 (s_X12_goesIn hc112) (by omega) rfl rfl (Nat.le_of_ble_eq_true rfl) dX12_atom_38 ?_
      refine V.ifz_ne (tgt := 46) dX12_atom_41 rfl (fun c => ?_) (fun c => ?_)
      · replace hF := ip c hF
        refine V.aload_n 1 dX12_atom_46 rfl rfl ?_
        obtain ⟨r114, h116, hc115, hF⟩ := bd_s hF
        refine V.callVi mf_X12_sum ml_X12_158 sh_251 (s_X12_sum hdr hrf hc115) (by omega) rfl rfl (Nat.le_of_ble_eq_true rfl) dX12_atom_47 ?_
        refine V.istore_n [(2, _), (1, _), (0, _)] dX12_atom_50 rfl (by decide) rfl ?_
        refine V.aload_n 2 dX12_atom_51 rfl rfl ?_
        refine V.bipush (v := 93) dX12_atom_52 (by decide) ?_
        obtain ⟨r117, h119, hc118, hF⟩ := bd_s hF
        refine V.callVi mf_X12_takes ml_X12_161 sh_251 (s_X12_takes hc118) (by omega) rfl rfl (Nat.le_of_ble_eq_true rfl) dX12_atom_54 ?_
        refine V.ifz_ne (tgt := 62) dX12_atom_57 rfl (fun c => ?_) (fun c => ?_)
        · replace hF := ip c hF
          refine V.aload_n 2 dX12_atom_62 rfl rfl ?_
          refine V.dup dX12_atom_63 rfl ?_
          refine V.getI fl_X12_128 sh_251 rfl km_251 dX12_atom_64 ?_
          refine V.iconst (v := 1) dX12_atom_67 rfl ?_
          refine V.isub dX12_atom_68 ?_
          refine V.putI fl_X12_128 rfl (tyX12_ok 12 (by decide)) rfl rfl sh_251 rfl km_251 dX12_atom_69 ?_
          refine V.iload_n 0 dX12_atom_72 rfl rfl ?_
          cases hF
          exact V.iret dX12_atom_73
        · replace hF := iq c hF
          refine V.iconst (v := 0) dX12_atom_60 rfl ?_
          cases hF
          exact V.iret dX12_atom_61
      · replace hF := iq c hF
        refine V.iconst (v := 0) dX12_atom_44 rfl ?_
        cases hF
        exact V.iret dX12_atom_45
  · replace hF := ip c hF
    refine V.aload_n 1 dX12_atom_14 rfl rfl ?_
    refine V.dup dX12_atom_15 rfl ?_
    refine V.getI fl_X12_116 sh_251 rfl km_251 dX12_atom_16 ?_
    refine V.iconst (v := 1) dX12_atom_19 rfl ?_
    refine V.iadd dX12_atom_20 ?_
    refine V.putI fl_X12_116 rfl (tyX12_ok 10 (by decide)) rfl rfl sh_251 rfl km_251 dX12_atom_21 ?_
    refine V.aload_n 1 dX12_atom_24 rfl rfl ?_
    refine V.getR (v := 255) fl_X12_20 sh_251 rfl fx_251_4 (by decide) dX12_atom_25 ?_
    refine V.iload_n 0 dX12_atom_28 rfl rfl ?_
    obtain ⟨hk, hF⟩ := ck hF
    refine V.iald io_255 hk dX12_atom_29 ?_
    cases hF
    exact V.iret dX12_atom_30
def X12_atom (n : Nat) : Nat → Mm → Option (Int32 × Mm)
  | 0, _ => none
  | e + 1, h => X12_atom_b n (X12_atom n e)  h
set_option maxRecDepth 100000 in
set_option maxHeartbeats 4000000 in
theorem s_X12_atom {X : WX} {o : Mm} {n : Nat} : ∀ (e : Nat)  (h : Mm) (rv : Int32) (hz : Mm), X12_atom n e  h = some (rv, hz) → Sat X yX12_atom cX12_atom 4 (some .int) (7 + 4 * e) [.ref (xa X 251)] false o h (some (.int rv)) hz := by
  intro e
  induction e with
  | zero => intro  h rv hz hF; exact nomatch (show (none : Option (Int32 × Mm)) = some (rv, hz) from hF)
  | succ e ih => intro  h rv hz hF; exact s_X12_atom_b (dr := 7 + 4 * e) (by omega) ih (by omega)  hF
/-! MonsterCotModel.isSign -/
theorem dX12_isSign_0 : decode cX12_isSign 0 = .ok (.iload_n 0, 1) := by decide +kernel
theorem dX12_isSign_1 : decode cX12_isSign 1 = .ok (.bipush 61, 2) := by decide +kernel
theorem dX12_isSign_3 : decode cX12_isSign 3 = .ok (.if_icmp .eq 15, 3) := by decide +kernel
theorem dX12_isSign_6 : decode cX12_isSign 6 = .ok (.iload_n 0, 1) := by decide +kernel
theorem dX12_isSign_7 : decode cX12_isSign 7 = .ok (.bipush 60, 2) := by decide +kernel
theorem dX12_isSign_9 : decode cX12_isSign 9 = .ok (.if_icmp .eq 9, 3) := by decide +kernel
theorem dX12_isSign_12 : decode cX12_isSign 12 = .ok (.iload_n 0, 1) := by decide +kernel
theorem dX12_isSign_13 : decode cX12_isSign 13 = .ok (.bipush 62, 2) := by decide +kernel
theorem dX12_isSign_15 : decode cX12_isSign 15 = .ok (.if_icmp .ne 7, 3) := by decide +kernel
theorem dX12_isSign_18 : decode cX12_isSign 18 = .ok (.iconst 1, 1) := by decide +kernel
theorem dX12_isSign_19 : decode cX12_isSign 19 = .ok (.goto 4, 3) := by decide +kernel
theorem dX12_isSign_22 : decode cX12_isSign 22 = .ok (.iconst 0, 1) := by decide +kernel
theorem dX12_isSign_23 : decode cX12_isSign 23 = .ok (.ireturn, 1) := by decide +kernel
def X12_isSign_18 (h : Mm) : Option Bool := (some true)
set_option maxRecDepth 100000 in
set_option maxHeartbeats 4000000 in
theorem v_X12_isSign_18 {X : WX} {G : GX} {o : Mm} {rv : Bool} {h : Mm} (hF : X12_isSign_18  h = some rv) : V X G RX12 cX12_isSign 1 (some .boolean) 1 0 0 (QR X G false o (some (.int (b2i rv))) h) false o 18 [] [] h := by
  unfold X12_isSign_18 at hF
  refine V.iconst (v := 1) dX12_isSign_18 rfl ?_
  refine V.goto (tgt := 23) dX12_isSign_19 rfl ?_
  cases hF
  exact V.bret dX12_isSign_23
def X12_isSign (x0 : Int32) (h : Mm) : Option Bool := (if x0 = (61 : Int32) then (X12_isSign_18 h) else (if x0 = (60 : Int32) then (X12_isSign_18 h) else (if x0 = (62 : Int32) then (X12_isSign_18 h) else (some false))))
set_option maxRecDepth 100000 in
set_option maxHeartbeats 4000000 in
theorem s_X12_isSign {X : WX} {o : Mm} {x0 : Int32} {rv : Bool} {h : Mm} (hF : X12_isSign x0 h = some rv) : Sat X yX12_isSign cX12_isSign 1 (some .boolean) 1 [.int x0] false o h (some (.int (b2i rv))) h := by
  unfold X12_isSign at hF
  refine Sat.mk (own := RX12) rfl (by decide +kernel) (Nat.le_of_ble_eq_true rfl) (fun G => ?_)
  refine V.sub (lv2 := [(0, _)]) [0] rfl ?_
  refine V.iload_n 0 dX12_isSign_0 rfl rfl ?_
  refine V.bipush (v := 61) dX12_isSign_1 (by decide) ?_
  refine V.icmp_eq (tgt := 18) dX12_isSign_3 rfl (fun c => ?_) (fun c => ?_)
  · replace hF := ip c hF
    exact V.sub [] rfl (v_X12_isSign_18 hF)
  · replace hF := iq c hF
    refine V.iload_n 0 dX12_isSign_6 rfl rfl ?_
    refine V.bipush (v := 60) dX12_isSign_7 (by decide) ?_
    refine V.icmp_eq (tgt := 18) dX12_isSign_9 rfl (fun c => ?_) (fun c => ?_)
    · replace hF := ip c hF
      exact V.sub [] rfl (v_X12_isSign_18 hF)
    · replace hF := iq c hF
      refine V.iload_n 0 dX12_isSign_12 rfl rfl ?_
      refine V.bipush (v := 62) dX12_isSign_13 (by decide) ?_
      refine V.icmp_ne (tgt := 22) dX12_isSign_15 rfl (fun c => ?_) (fun c => ?_)
      · replace hF := iq c hF
        refine V.iconst (v := 0) dX12_isSign_22 rfl ?_
        cases hF
        exact V.bret dX12_isSign_23
      · replace hF := ip c hF
        exact V.sub [] rfl (v_X12_isSign_18 hF)
/-! MonsterCotModel.compares -/
theorem dX12_compares_0 : decode cX12_compares 0 = .ok (.iload_n 1, 1) := by decide +kernel
theorem dX12_compares_1 : decode cX12_compares 1 = .ok (.ifCond .eq 7, 3) := by decide +kernel
theorem dX12_compares_4 : decode cX12_compares 4 = .ok (.iload_n 2, 1) := by decide +kernel
theorem dX12_compares_5 : decode cX12_compares 5 = .ok (.goto 7, 3) := by decide +kernel
theorem dX12_compares_8 : decode cX12_compares 8 = .ok (.aload_n 0, 1) := by decide +kernel
theorem dX12_compares_9 : decode cX12_compares 9 = .ok (.invokevirtual 158, 3) := by decide +kernel
theorem dX12_compares_12 : decode cX12_compares 12 = .ok (.istore_n 3, 1) := by decide +kernel
theorem dX12_compares_13 : decode cX12_compares 13 = .ok (.aload_n 0, 1) := by decide +kernel
theorem dX12_compares_14 : decode cX12_compares 14 = .ok (.getfield 125, 3) := by decide +kernel
theorem dX12_compares_17 : decode cX12_compares 17 = .ok (.iconst (-1), 1) := by decide +kernel
theorem dX12_compares_18 : decode cX12_compares 18 = .ok (.if_icmp .eq 5, 3) := by decide +kernel
theorem dX12_compares_21 : decode cX12_compares 21 = .ok (.iconst 0, 1) := by decide +kernel
theorem dX12_compares_22 : decode cX12_compares 22 = .ok (.ireturn, 1) := by decide +kernel
theorem dX12_compares_23 : decode cX12_compares 23 = .ok (.aload_n 0, 1) := by decide +kernel
theorem dX12_compares_24 : decode cX12_compares 24 = .ok (.invokevirtual 135, 3) := by decide +kernel
theorem dX12_compares_27 : decode cX12_compares 27 = .ok (.istore 4, 2) := by decide +kernel
theorem dX12_compares_29 : decode cX12_compares 29 = .ok (.iload 4, 2) := by decide +kernel
theorem dX12_compares_31 : decode cX12_compares 31 = .ok (.invokestatic 178, 3) := by decide +kernel
theorem dX12_compares_34 : decode cX12_compares 34 = .ok (.ifCond .ne 8, 3) := by decide +kernel
theorem dX12_compares_37 : decode cX12_compares 37 = .ok (.aload_n 0, 1) := by decide +kernel
theorem dX12_compares_38 : decode cX12_compares 38 = .ok (.invokevirtual 131, 3) := by decide +kernel
theorem dX12_compares_41 : decode cX12_compares 41 = .ok (.ireturn, 1) := by decide +kernel
theorem dX12_compares_42 : decode cX12_compares 42 = .ok (.aload_n 0, 1) := by decide +kernel
theorem dX12_compares_43 : decode cX12_compares 43 = .ok (.dup, 1) := by decide +kernel
theorem dX12_compares_44 : decode cX12_compares 44 = .ok (.getfield 116, 3) := by decide +kernel
theorem dX12_compares_47 : decode cX12_compares 47 = .ok (.iconst 1, 1) := by decide +kernel
theorem dX12_compares_48 : decode cX12_compares 48 = .ok (.iadd, 1) := by decide +kernel
theorem dX12_compares_49 : decode cX12_compares 49 = .ok (.putfield 116, 3) := by decide +kernel
theorem dX12_compares_52 : decode cX12_compares 52 = .ok (.aload_n 0, 1) := by decide +kernel
theorem dX12_compares_53 : decode cX12_compares 53 = .ok (.invokevirtual 158, 3) := by decide +kernel
theorem dX12_compares_56 : decode cX12_compares 56 = .ok (.istore 5, 2) := by decide +kernel
theorem dX12_compares_58 : decode cX12_compares 58 = .ok (.iload 4, 2) := by decide +kernel
theorem dX12_compares_60 : decode cX12_compares 60 = .ok (.bipush 61, 2) := by decide +kernel
theorem dX12_compares_62 : decode cX12_compares 62 = .ok (.if_icmp .ne 17, 3) := by decide +kernel
theorem dX12_compares_65 : decode cX12_compares 65 = .ok (.iload_n 3, 1) := by decide +kernel
theorem dX12_compares_66 : decode cX12_compares 66 = .ok (.iload 5, 2) := by decide +kernel
theorem dX12_compares_68 : decode cX12_compares 68 = .ok (.if_icmp .ne 7, 3) := by decide +kernel
theorem dX12_compares_71 : decode cX12_compares 71 = .ok (.iconst 1, 1) := by decide +kernel
theorem dX12_compares_72 : decode cX12_compares 72 = .ok (.goto 39, 3) := by decide +kernel
theorem dX12_compares_75 : decode cX12_compares 75 = .ok (.iconst 0, 1) := by decide +kernel
theorem dX12_compares_76 : decode cX12_compares 76 = .ok (.goto 35, 3) := by decide +kernel
theorem dX12_compares_79 : decode cX12_compares 79 = .ok (.iload 4, 2) := by decide +kernel
theorem dX12_compares_81 : decode cX12_compares 81 = .ok (.bipush 60, 2) := by decide +kernel
theorem dX12_compares_83 : decode cX12_compares 83 = .ok (.if_icmp .ne 17, 3) := by decide +kernel
theorem dX12_compares_86 : decode cX12_compares 86 = .ok (.iload_n 3, 1) := by decide +kernel
theorem dX12_compares_87 : decode cX12_compares 87 = .ok (.iload 5, 2) := by decide +kernel
theorem dX12_compares_89 : decode cX12_compares 89 = .ok (.if_icmp .ge 7, 3) := by decide +kernel
theorem dX12_compares_92 : decode cX12_compares 92 = .ok (.iconst 1, 1) := by decide +kernel
theorem dX12_compares_93 : decode cX12_compares 93 = .ok (.goto 18, 3) := by decide +kernel
theorem dX12_compares_96 : decode cX12_compares 96 = .ok (.iconst 0, 1) := by decide +kernel
theorem dX12_compares_97 : decode cX12_compares 97 = .ok (.goto 14, 3) := by decide +kernel
theorem dX12_compares_100 : decode cX12_compares 100 = .ok (.iload_n 3, 1) := by decide +kernel
theorem dX12_compares_101 : decode cX12_compares 101 = .ok (.iload 5, 2) := by decide +kernel
theorem dX12_compares_103 : decode cX12_compares 103 = .ok (.if_icmp .le 7, 3) := by decide +kernel
theorem dX12_compares_106 : decode cX12_compares 106 = .ok (.iconst 1, 1) := by decide +kernel
theorem dX12_compares_107 : decode cX12_compares 107 = .ok (.goto 4, 3) := by decide +kernel
theorem dX12_compares_110 : decode cX12_compares 110 = .ok (.iconst 0, 1) := by decide +kernel
theorem dX12_compares_111 : decode cX12_compares 111 = .ok (.ireturn, 1) := by decide +kernel
def X12_compares_12 (n : Nat) (s0 : Int32) (h : Mm) : Option (Bool × Mm) := (if (h.1 251 11) = (-1 : Int32) then (bd (X12_look n h) (fun r29 h31 => (bp (X12_isSign r29 h31) (fun r32 => (if r32 = true then (bd (X12_sum n (X12_atom n 9) (wI h31 251 10 ((h31.1 251 10) + (1 : Int32)))) (fun r34 h36 => (if r29 = (61 : Int32) then (if s0 = r34 then (some (true, h36)) else (some (false, h36))) else (if r29 = (60 : Int32) then (if r34 ≤ s0 then (some (false, h36)) else (some (true, h36))) else (if s0 ≤ r34 then (some (false, h36)) else (some (true, h36))))))) else (bd (X12_fails h31) (fun r37 h39 => (some (r37, h39))))))))) else (some (false, h)))
set_option maxRecDepth 100000 in
set_option maxHeartbeats 4000000 in
theorem v_X12_compares_12 {X : WX} {G : GX} {o : Mm} {n : Nat} {rv : Bool} {hz : Mm} {s0 : Int32} {h : Mm} (hF : X12_compares_12 n s0 h = some (rv, hz)) : V X G RX12 cX12_compares 6 (some .boolean) 46 0 0 (QR X G false o (some (.int (b2i rv))) hz) false o 12 [(0, .ref (xa X 251))] [.int s0] h := by
  unfold X12_compares_12 at hF
  refine V.istore_n [(3, _), (0, _)] dX12_compares_12 rfl (by decide) rfl ?_
  refine V.aload_n 1 dX12_compares_13 rfl rfl ?_
  refine V.getI fl_X12_125 sh_251 rfl km_251 dX12_compares_14 ?_
  refine V.iconst (v := -1) dX12_compares_17 rfl ?_
  refine V.icmp_eq (tgt := 23) dX12_compares_18 rfl (fun c => ?_) (fun c => ?_)
  · replace hF := ip c hF
    refine V.aload_n 1 dX12_compares_23 rfl rfl ?_
    obtain ⟨r29, h31, hc30, hF⟩ := bd_s hF
    refine V.callVi mf_X12_look ml_X12_135 sh_251 (s_X12_look hc30) (by decide) rfl rfl (Nat.le_of_ble_eq_true rfl) dX12_compares_24 ?_
    refine V.istore [(4, _), (3, _), (0, _)] dX12_compares_27 (by decide) rfl ?_
    refine V.iload 0 dX12_compares_29 rfl ?_
    obtain ⟨r32, hc33, hF⟩ := bp_s hF
    refine V.callSi mf_X12_isSign ml_X12_178 (s_X12_isSign hc33) (by decide) rfl rfl (Nat.le_of_ble_eq_true rfl) dX12_compares_31 ?_
    refine V.ifz_ne (tgt := 42) dX12_compares_34 rfl (fun c => ?_) (fun c => ?_)
    · replace hF := ip c hF
      refine V.aload_n 2 dX12_compares_42 rfl rfl ?_
      refine V.dup dX12_compares_43 rfl ?_
      refine V.getI fl_X12_116 sh_251 rfl km_251 dX12_compares_44 ?_
      refine V.iconst (v := 1) dX12_compares_47 rfl ?_
      refine V.iadd dX12_compares_48 ?_
      refine V.putI fl_X12_116 rfl (tyX12_ok 10 (by decide)) rfl rfl sh_251 rfl km_251 dX12_compares_49 ?_
      refine V.aload_n 2 dX12_compares_52 rfl rfl ?_
      obtain ⟨r34, h36, hc35, hF⟩ := bd_s hF
      refine V.callVi mf_X12_sum ml_X12_158 sh_251 (s_X12_sum (dr := 43) (by decide) (s_X12_atom 9) hc35) (by decide) rfl rfl (Nat.le_of_ble_eq_true rfl) dX12_compares_53 ?_
      refine V.istore [(5, _), (4, _), (3, _), (0, _)] dX12_compares_56 (by decide) rfl ?_
      refine V.iload 1 dX12_compares_58 rfl ?_
      refine V.bipush (v := 61) dX12_compares_60 (by decide) ?_
      refine V.icmp_ne (tgt := 79) dX12_compares_62 rfl (fun c => ?_) (fun c => ?_)
      · replace hF := iq c hF
        refine V.iload 1 dX12_compares_79 rfl ?_
        refine V.bipush (v := 60) dX12_compares_81 (by decide) ?_
        refine V.icmp_ne (tgt := 100) dX12_compares_83 rfl (fun c => ?_) (fun c => ?_)
        · replace hF := iq c hF
          refine V.iload_n 2 dX12_compares_100 rfl rfl ?_
          refine V.iload 0 dX12_compares_101 rfl ?_
          refine V.icmp_le (tgt := 110) dX12_compares_103 rfl (fun c => ?_) (fun c => ?_)
          · replace hF := ip c hF
            refine V.iconst (v := 0) dX12_compares_110 rfl ?_
            cases hF
            exact V.bret dX12_compares_111
          · replace hF := iq c hF
            refine V.iconst (v := 1) dX12_compares_106 rfl ?_
            refine V.goto (tgt := 111) dX12_compares_107 rfl ?_
            cases hF
            exact V.bret dX12_compares_111
        · replace hF := ip c hF
          refine V.iload_n 2 dX12_compares_86 rfl rfl ?_
          refine V.iload 0 dX12_compares_87 rfl ?_
          refine V.icmp_ge (tgt := 96) dX12_compares_89 rfl (fun c => ?_) (fun c => ?_)
          · replace hF := ip c hF
            refine V.iconst (v := 0) dX12_compares_96 rfl ?_
            refine V.goto (tgt := 111) dX12_compares_97 rfl ?_
            cases hF
            exact V.bret dX12_compares_111
          · replace hF := iq c hF
            refine V.iconst (v := 1) dX12_compares_92 rfl ?_
            refine V.goto (tgt := 111) dX12_compares_93 rfl ?_
            cases hF
            exact V.bret dX12_compares_111
      · replace hF := ip c hF
        refine V.iload_n 2 dX12_compares_65 rfl rfl ?_
        refine V.iload 0 dX12_compares_66 rfl ?_
        refine V.icmp_ne (tgt := 75) dX12_compares_68 rfl (fun c => ?_) (fun c => ?_)
        · replace hF := iq c hF
          refine V.iconst (v := 0) dX12_compares_75 rfl ?_
          refine V.goto (tgt := 111) dX12_compares_76 rfl ?_
          cases hF
          exact V.bret dX12_compares_111
        · replace hF := ip c hF
          refine V.iconst (v := 1) dX12_compares_71 rfl ?_
          refine V.goto (tgt := 111) dX12_compares_72 rfl ?_
          cases hF
          exact V.bret dX12_compares_111
    · replace hF := iq c hF
      refine V.aload_n 2 dX12_compares_37 rfl rfl ?_
      obtain ⟨r37, h39, hc38, hF⟩ := bd_s hF
      refine V.callVi mf_X12_fails ml_X12_131 sh_251 (s_X12_fails hc38) (by decide) rfl rfl (Nat.le_of_ble_eq_true rfl) dX12_compares_38 ?_
      cases hF
      exact V.bret dX12_compares_41
  · replace hF := iq c hF
    refine V.iconst (v := 0) dX12_compares_21 rfl ?_
    cases hF
    exact V.bret dX12_compares_22
def X12_compares (n : Nat) (x1 : Bool) (x2 : Int32) (h : Mm) : Option (Bool × Mm) := (if x1 = true then (X12_compares_12 n x2 h) else (bd (X12_sum n (X12_atom n 9) h) (fun r40 h42 => (X12_compares_12 n r40 h42))))
set_option maxRecDepth 100000 in
set_option maxHeartbeats 4000000 in
theorem s_X12_compares {X : WX} {o : Mm} {n : Nat} {x1 : Bool} {x2 : Int32} {rv : Bool} {hz : Mm} {h : Mm} (hF : X12_compares n x1 x2 h = some (rv, hz)) : Sat X yX12_compares cX12_compares 6 (some .boolean) 46 [.ref (xa X 251), .int (b2i x1), .int x2] false o h (some (.int (b2i rv))) hz := by
  unfold X12_compares at hF
  refine Sat.mk (own := RX12) rfl (by decide +kernel) (Nat.le_of_ble_eq_true rfl) (fun G => ?_)
  refine V.sub (lv2 := [(0, _), (1, _), (2, _)]) [0, 1, 2] rfl ?_
  refine V.iload_n 1 dX12_compares_0 rfl rfl ?_
  refine V.ifz_eq (tgt := 8) dX12_compares_1 rfl (fun c => ?_) (fun c => ?_)
  · replace hF := iq c hF
    refine V.aload_n 0 dX12_compares_8 rfl rfl ?_
    obtain ⟨r40, h42, hc41, hF⟩ := bd_s hF
    refine V.callVi mf_X12_sum ml_X12_158 sh_251 (s_X12_sum (dr := 43) (by decide) (s_X12_atom 9) hc41) (by decide) rfl rfl (Nat.le_of_ble_eq_true rfl) dX12_compares_9 ?_
    exact V.sub [0] rfl (v_X12_compares_12 hF)
  · replace hF := ip c hF
    refine V.iload_n 2 dX12_compares_4 rfl rfl ?_
    refine V.goto (tgt := 12) dX12_compares_5 rfl ?_
    exact V.sub [0] rfl (v_X12_compares_12 hF)
/-! MonsterCotModel.part -/
theorem dX12_part_0 : decode cX12_part 0 = .ok (.iload_n 1, 1) := by decide +kernel
theorem dX12_part_1 : decode cX12_part 1 = .ok (.ifCond .eq 12, 3) := by decide +kernel
theorem dX12_part_4 : decode cX12_part 4 = .ok (.aload_n 0, 1) := by decide +kernel
theorem dX12_part_5 : decode cX12_part 5 = .ok (.iconst 1, 1) := by decide +kernel
theorem dX12_part_6 : decode cX12_part 6 = .ok (.iload_n 2, 1) := by decide +kernel
theorem dX12_part_7 : decode cX12_part 7 = .ok (.invokevirtual 188, 3) := by decide +kernel
theorem dX12_part_10 : decode cX12_part 10 = .ok (.goto 7, 3) := by decide +kernel
theorem dX12_part_13 : decode cX12_part 13 = .ok (.aload_n 0, 1) := by decide +kernel
theorem dX12_part_14 : decode cX12_part 14 = .ok (.invokevirtual 181, 3) := by decide +kernel
theorem dX12_part_17 : decode cX12_part 17 = .ok (.istore_n 3, 1) := by decide +kernel
theorem dX12_part_18 : decode cX12_part 18 = .ok (.aload_n 0, 1) := by decide +kernel
theorem dX12_part_19 : decode cX12_part 19 = .ok (.getfield 125, 3) := by decide +kernel
theorem dX12_part_22 : decode cX12_part 22 = .ok (.iconst (-1), 1) := by decide +kernel
theorem dX12_part_23 : decode cX12_part 23 = .ok (.if_icmp .ne 46, 3) := by decide +kernel
theorem dX12_part_26 : decode cX12_part 26 = .ok (.aload_n 0, 1) := by decide +kernel
theorem dX12_part_27 : decode cX12_part 27 = .ok (.invokevirtual 135, 3) := by decide +kernel
theorem dX12_part_30 : decode cX12_part 30 = .ok (.bipush 38, 2) := by decide +kernel
theorem dX12_part_32 : decode cX12_part 32 = .ok (.if_icmp .ne 37, 3) := by decide +kernel
theorem dX12_part_35 : decode cX12_part 35 = .ok (.aload_n 0, 1) := by decide +kernel
theorem dX12_part_36 : decode cX12_part 36 = .ok (.dup, 1) := by decide +kernel
theorem dX12_part_37 : decode cX12_part 37 = .ok (.getfield 116, 3) := by decide +kernel
theorem dX12_part_40 : decode cX12_part 40 = .ok (.iconst 1, 1) := by decide +kernel
theorem dX12_part_41 : decode cX12_part 41 = .ok (.iadd, 1) := by decide +kernel
theorem dX12_part_42 : decode cX12_part 42 = .ok (.putfield 116, 3) := by decide +kernel
theorem dX12_part_45 : decode cX12_part 45 = .ok (.aload_n 0, 1) := by decide +kernel
theorem dX12_part_46 : decode cX12_part 46 = .ok (.invokevirtual 181, 3) := by decide +kernel
theorem dX12_part_49 : decode cX12_part 49 = .ok (.istore 4, 2) := by decide +kernel
theorem dX12_part_51 : decode cX12_part 51 = .ok (.iload_n 3, 1) := by decide +kernel
theorem dX12_part_52 : decode cX12_part 52 = .ok (.ifCond .eq 12, 3) := by decide +kernel
theorem dX12_part_55 : decode cX12_part 55 = .ok (.iload 4, 2) := by decide +kernel
theorem dX12_part_57 : decode cX12_part 57 = .ok (.ifCond .eq 7, 3) := by decide +kernel
theorem dX12_part_60 : decode cX12_part 60 = .ok (.iconst 1, 1) := by decide +kernel
theorem dX12_part_61 : decode cX12_part 61 = .ok (.goto 4, 3) := by decide +kernel
theorem dX12_part_64 : decode cX12_part 64 = .ok (.iconst 0, 1) := by decide +kernel
theorem dX12_part_65 : decode cX12_part 65 = .ok (.istore_n 3, 1) := by decide +kernel
theorem dX12_part_66 : decode cX12_part 66 = .ok (.goto (-48), 3) := by decide +kernel
theorem dX12_part_69 : decode cX12_part 69 = .ok (.iload_n 3, 1) := by decide +kernel
theorem dX12_part_70 : decode cX12_part 70 = .ok (.ireturn, 1) := by decide +kernel
def X12_part_65 (n : Nat) (rf : Mm → Option (Bool × Mm)) (K18 : Bool → Mm → Option (Bool × Mm)) (s0 : Bool) (h : Mm) : Option (Bool × Mm) := (K18 s0 h)
set_option maxRecDepth 100000 in
set_option maxHeartbeats 4000000 in
theorem v_X12_part_65 {X : WX} {G : GX} {o : Mm} {n : Nat} {rf : Mm → Option (Bool × Mm)} {dr : Nat} (hdr : 48 ≤ dr) (hrf : ∀   (h : Mm) (r : Bool) (h2 : Mm), rf  h = some (r, h2) → Sat X yX12_unit cX12_unit 3 (some .boolean) dr [.ref (xa X 251)] false o h (some (.int (b2i r))) h2) {K18 : Bool → Mm → Option (Bool × Mm)} {rv : Bool} {hz : Mm} (hK18 : ∀ (x3 : Bool) (h : Mm), K18 x3 h = some (rv, hz) → V X G RX12 cX12_part 5 (some .boolean) (dr + 1) 0 0 (QR X G false o (some (.int (b2i rv))) hz) false o 18 [(0, .ref (xa X 251)), (3, .int (b2i x3))] [] h) {s0 : Bool} {h : Mm} (hF : X12_part_65 n rf K18 s0 h = some (rv, hz)) : V X G RX12 cX12_part 5 (some .boolean) (dr + 1) 0 0 (QR X G false o (some (.int (b2i rv))) hz) false o 65 [(0, .ref (xa X 251))] [.int (b2i s0)] h := by
  unfold X12_part_65 at hF
  refine V.istore_n [(3, _), (0, _)] dX12_part_65 rfl (by decide) rfl ?_
  refine V.goto (tgt := 18) dX12_part_66 rfl ?_
  exact V.sub [1, 0] rfl (hK18 _ _ hF)
def X12_part_64 (n : Nat) (rf : Mm → Option (Bool × Mm)) (K18 : Bool → Mm → Option (Bool × Mm)) (h : Mm) : Option (Bool × Mm) := (X12_part_65 n rf K18 false h)
set_option maxRecDepth 100000 in
set_option maxHeartbeats 4000000 in
theorem v_X12_part_64 {X : WX} {G : GX} {o : Mm} {n : Nat} {rf : Mm → Option (Bool × Mm)} {dr : Nat} (hdr : 48 ≤ dr) (hrf : ∀   (h : Mm) (r : Bool) (h2 : Mm), rf  h = some (r, h2) → Sat X yX12_unit cX12_unit 3 (some .boolean) dr [.ref (xa X 251)] false o h (some (.int (b2i r))) h2) {K18 : Bool → Mm → Option (Bool × Mm)} {rv : Bool} {hz : Mm} (hK18 : ∀ (x3 : Bool) (h : Mm), K18 x3 h = some (rv, hz) → V X G RX12 cX12_part 5 (some .boolean) (dr + 1) 0 0 (QR X G false o (some (.int (b2i rv))) hz) false o 18 [(0, .ref (xa X 251)), (3, .int (b2i x3))] [] h) {h : Mm} (hF : X12_part_64 n rf K18 h = some (rv, hz)) : V X G RX12 cX12_part 5 (some .boolean) (dr + 1) 0 0 (QR X G false o (some (.int (b2i rv))) hz) false o 64 [(0, .ref (xa X 251))] [] h := by
  unfold X12_part_64 at hF
  refine V.iconst (v := 0) dX12_part_64 rfl ?_
  exact (v_X12_part_65 hdr hrf hK18 hF)
def X12_part_69 (n : Nat) (rf : Mm → Option (Bool × Mm)) (x3 : Bool) (h : Mm) : Option (Bool × Mm) := (some (x3, h))
set_option maxRecDepth 100000 in
set_option maxHeartbeats 4000000 in
theorem v_X12_part_69 {X : WX} {G : GX} {o : Mm} {n : Nat} {rf : Mm → Option (Bool × Mm)} {dr : Nat} (hdr : 48 ≤ dr) (hrf : ∀   (h : Mm) (r : Bool) (h2 : Mm), rf  h = some (r, h2) → Sat X yX12_unit cX12_unit 3 (some .boolean) dr [.ref (xa X 251)] false o h (some (.int (b2i r))) h2) {rv : Bool} {hz : Mm} {x3 : Bool} {h : Mm} (hF : X12_part_69 n rf x3 h = some (rv, hz)) : V X G RX12 cX12_part 5 (some .boolean) (dr + 1) 0 0 (QR X G false o (some (.int (b2i rv))) hz) false o 69 [(3, .int (b2i x3))] [] h := by
  unfold X12_part_69 at hF
  refine V.iload_n 0 dX12_part_69 rfl rfl ?_
  cases hF
  exact V.bret dX12_part_70
def X12_part_18 (n : Nat) (rf : Mm → Option (Bool × Mm)) : Nat → Bool → Mm → Option (Bool × Mm)
  | 0, _, _ => none
  | f + 1, x3, h => (if (h.1 251 11) = (-1 : Int32) then (bd (X12_look n h) (fun r31 h33 => (if r31 = (38 : Int32) then (bd (rf (wI h33 251 10 ((h33.1 251 10) + (1 : Int32)))) (fun r34 h36 => (if x3 = true then (if r34 = true then (X12_part_65 n rf (X12_part_18 n rf f) true h36) else (X12_part_64 n rf (X12_part_18 n rf f) h36)) else (X12_part_64 n rf (X12_part_18 n rf f) h36)))) else (X12_part_69 n rf x3 h33)))) else (X12_part_69 n rf x3 h))
set_option maxRecDepth 100000 in
set_option maxHeartbeats 4000000 in
theorem v_X12_part_18 {X : WX} {G : GX} {o : Mm} {n : Nat} {rf : Mm → Option (Bool × Mm)} {dr : Nat} (hdr : 48 ≤ dr) (hrf : ∀   (h : Mm) (r : Bool) (h2 : Mm), rf  h = some (r, h2) → Sat X yX12_unit cX12_unit 3 (some .boolean) dr [.ref (xa X 251)] false o h (some (.int (b2i r))) h2) {rv : Bool} {hz : Mm} : ∀ (f : Nat) (x3 : Bool) (h : Mm), X12_part_18 n rf f x3 h = some (rv, hz) → V X G RX12 cX12_part 5 (some .boolean) (dr + 1) 0 0 (QR X G false o (some (.int (b2i rv))) hz) false o 18 [(0, .ref (xa X 251)), (3, .int (b2i x3))] [] h := by
  intro f
  induction f with
  | zero => intro x3 h hF; exact nomatch (show (none : Option (Bool × Mm)) = some (rv, hz) from hF)
  | succ f ih =>
    intro x3 h hF
    unfold X12_part_18 at hF
    refine V.aload_n 0 dX12_part_18 rfl rfl ?_
    refine V.getI fl_X12_125 sh_251 rfl km_251 dX12_part_19 ?_
    refine V.iconst (v := -1) dX12_part_22 rfl ?_
    refine V.icmp_ne (tgt := 69) dX12_part_23 rfl (fun c => ?_) (fun c => ?_)
    · replace hF := iq c hF
      exact V.sub [1] rfl (v_X12_part_69 hdr hrf hF)
    · replace hF := ip c hF
      refine V.aload_n 0 dX12_part_26 rfl rfl ?_
      obtain ⟨r31, h33, hc32, hF⟩ := bd_s hF
      refine V.callVi mf_X12_look ml_X12_135 sh_251 (s_X12_look hc32) (by omega) rfl rfl (Nat.le_of_ble_eq_true rfl) dX12_part_27 ?_
      refine V.bipush (v := 38) dX12_part_30 (by decide) ?_
      refine V.icmp_ne (tgt := 69) dX12_part_32 rfl (fun c => ?_) (fun c => ?_)
      · replace hF := iq c hF
        exact V.sub [1] rfl (v_X12_part_69 hdr hrf hF)
      · replace hF := ip c hF
        refine V.aload_n 0 dX12_part_35 rfl rfl ?_
        refine V.dup dX12_part_36 rfl ?_
        refine V.getI fl_X12_116 sh_251 rfl km_251 dX12_part_37 ?_
        refine V.iconst (v := 1) dX12_part_40 rfl ?_
        refine V.iadd dX12_part_41 ?_
        refine V.putI fl_X12_116 rfl (tyX12_ok 10 (by decide)) rfl rfl sh_251 rfl km_251 dX12_part_42 ?_
        refine V.aload_n 0 dX12_part_45 rfl rfl ?_
        obtain ⟨r34, h36, hc35, hF⟩ := bd_s hF
        refine V.callVi mf_X12_unit ml_X12_181 sh_251 (hrf _ _ _ hc35) (by omega) rfl rfl (Nat.le_of_ble_eq_true rfl) dX12_part_46 ?_
        refine V.istore [(4, _), (0, _), (3, _)] dX12_part_49 (by decide) rfl ?_
        refine V.iload_n 2 dX12_part_51 rfl rfl ?_
        refine V.ifz_eq (tgt := 64) dX12_part_52 rfl (fun c => ?_) (fun c => ?_)
        · replace hF := iq c hF
          exact V.sub [1] rfl (v_X12_part_64 hdr hrf ih hF)
        · replace hF := ip c hF
          refine V.iload 0 dX12_part_55 rfl ?_
          refine V.ifz_eq (tgt := 64) dX12_part_57 rfl (fun c => ?_) (fun c => ?_)
          · replace hF := iq c hF
            exact V.sub [1] rfl (v_X12_part_64 hdr hrf ih hF)
          · replace hF := ip c hF
            refine V.iconst (v := 1) dX12_part_60 rfl ?_
            refine V.goto (tgt := 65) dX12_part_61 rfl ?_
            exact V.sub [1] rfl (v_X12_part_65 hdr hrf ih hF)
def X12_part_17 (n : Nat) (rf : Mm → Option (Bool × Mm)) (s0 : Bool) (h : Mm) : Option (Bool × Mm) := (X12_part_18 n rf n s0 h)
set_option maxRecDepth 100000 in
set_option maxHeartbeats 4000000 in
theorem v_X12_part_17 {X : WX} {G : GX} {o : Mm} {n : Nat} {rf : Mm → Option (Bool × Mm)} {dr : Nat} (hdr : 48 ≤ dr) (hrf : ∀   (h : Mm) (r : Bool) (h2 : Mm), rf  h = some (r, h2) → Sat X yX12_unit cX12_unit 3 (some .boolean) dr [.ref (xa X 251)] false o h (some (.int (b2i r))) h2) {rv : Bool} {hz : Mm} {s0 : Bool} {h : Mm} (hF : X12_part_17 n rf s0 h = some (rv, hz)) : V X G RX12 cX12_part 5 (some .boolean) (dr + 1) 0 0 (QR X G false o (some (.int (b2i rv))) hz) false o 17 [(0, .ref (xa X 251))] [.int (b2i s0)] h := by
  unfold X12_part_17 at hF
  refine V.istore_n [(3, _), (0, _)] dX12_part_17 rfl (by decide) rfl ?_
  exact V.sub [1, 0] rfl (v_X12_part_18 hdr hrf n _ _ hF)
def X12_part (n : Nat) (rf : Mm → Option (Bool × Mm)) (x1 : Bool) (x2 : Int32) (h : Mm) : Option (Bool × Mm) := (if x1 = true then (bd (X12_compares n true x2 h) (fun r40 h42 => (X12_part_17 n rf r40 h42))) else (bd (rf h) (fun r37 h39 => (X12_part_17 n rf r37 h39))))
set_option maxRecDepth 100000 in
set_option maxHeartbeats 4000000 in
theorem s_X12_part {X : WX} {o : Mm} {n : Nat} {rf : Mm → Option (Bool × Mm)} {dr : Nat} (hdr : 48 ≤ dr) (hrf : ∀   (h : Mm) (r : Bool) (h2 : Mm), rf  h = some (r, h2) → Sat X yX12_unit cX12_unit 3 (some .boolean) dr [.ref (xa X 251)] false o h (some (.int (b2i r))) h2) {x1 : Bool} {x2 : Int32} {rv : Bool} {hz : Mm} {h : Mm} (hF : X12_part n rf x1 x2 h = some (rv, hz)) : Sat X yX12_part cX12_part 5 (some .boolean) (dr + 1) [.ref (xa X 251), .int (b2i x1), .int x2] false o h (some (.int (b2i rv))) hz := by
  unfold X12_part at hF
  refine Sat.mk (own := RX12) rfl (by decide +kernel) (Nat.le_of_ble_eq_true rfl) (fun G => ?_)
  refine V.sub (lv2 := [(0, _), (1, _), (2, _)]) [0, 1, 2] rfl ?_
  refine V.iload_n 1 dX12_part_0 rfl rfl ?_
  refine V.ifz_eq (tgt := 13) dX12_part_1 rfl (fun c => ?_) (fun c => ?_)
  · replace hF := iq c hF
    refine V.aload_n 0 dX12_part_13 rfl rfl ?_
    obtain ⟨r37, h39, hc38, hF⟩ := bd_s hF
    refine V.callVi mf_X12_unit ml_X12_181 sh_251 (hrf _ _ _ hc38) (by omega) rfl rfl (Nat.le_of_ble_eq_true rfl) dX12_part_14 ?_
    exact V.sub [0] rfl (v_X12_part_17 hdr hrf hF)
  · replace hF := ip c hF
    refine V.aload_n 0 dX12_part_4 rfl rfl ?_
    refine V.iconst (v := 1) dX12_part_5 rfl ?_
    refine V.iload_n 2 dX12_part_6 rfl rfl ?_
    obtain ⟨r40, h42, hc41, hF⟩ := bd_s hF
    refine V.callVi mf_X12_compares ml_X12_188 sh_251 (s_X12_compares hc41) (by omega) rfl rfl (Nat.le_of_ble_eq_true rfl) dX12_part_7 ?_
    refine V.goto (tgt := 17) dX12_part_10 rfl ?_
    exact V.sub [0] rfl (v_X12_part_17 hdr hrf hF)
/-! MonsterCotModel.condition -/
theorem dX12_condition_0 : decode cX12_condition 0 = .ok (.aload_n 0, 1) := by decide +kernel
theorem dX12_condition_1 : decode cX12_condition 1 = .ok (.iload_n 1, 1) := by decide +kernel
theorem dX12_condition_2 : decode cX12_condition 2 = .ok (.iload_n 2, 1) := by decide +kernel
theorem dX12_condition_3 : decode cX12_condition 3 = .ok (.invokevirtual 191, 3) := by decide +kernel
theorem dX12_condition_6 : decode cX12_condition 6 = .ok (.istore_n 3, 1) := by decide +kernel
theorem dX12_condition_7 : decode cX12_condition 7 = .ok (.aload_n 0, 1) := by decide +kernel
theorem dX12_condition_8 : decode cX12_condition 8 = .ok (.getfield 125, 3) := by decide +kernel
theorem dX12_condition_11 : decode cX12_condition 11 = .ok (.iconst (-1), 1) := by decide +kernel
theorem dX12_condition_12 : decode cX12_condition 12 = .ok (.if_icmp .ne 48, 3) := by decide +kernel
theorem dX12_condition_15 : decode cX12_condition 15 = .ok (.aload_n 0, 1) := by decide +kernel
theorem dX12_condition_16 : decode cX12_condition 16 = .ok (.invokevirtual 135, 3) := by decide +kernel
theorem dX12_condition_19 : decode cX12_condition 19 = .ok (.bipush 124, 2) := by decide +kernel
theorem dX12_condition_21 : decode cX12_condition 21 = .ok (.if_icmp .ne 39, 3) := by decide +kernel
theorem dX12_condition_24 : decode cX12_condition 24 = .ok (.aload_n 0, 1) := by decide +kernel
theorem dX12_condition_25 : decode cX12_condition 25 = .ok (.dup, 1) := by decide +kernel
theorem dX12_condition_26 : decode cX12_condition 26 = .ok (.getfield 116, 3) := by decide +kernel
theorem dX12_condition_29 : decode cX12_condition 29 = .ok (.iconst 1, 1) := by decide +kernel
theorem dX12_condition_30 : decode cX12_condition 30 = .ok (.iadd, 1) := by decide +kernel
theorem dX12_condition_31 : decode cX12_condition 31 = .ok (.putfield 116, 3) := by decide +kernel
theorem dX12_condition_34 : decode cX12_condition 34 = .ok (.aload_n 0, 1) := by decide +kernel
theorem dX12_condition_35 : decode cX12_condition 35 = .ok (.iconst 0, 1) := by decide +kernel
theorem dX12_condition_36 : decode cX12_condition 36 = .ok (.iconst 0, 1) := by decide +kernel
theorem dX12_condition_37 : decode cX12_condition 37 = .ok (.invokevirtual 191, 3) := by decide +kernel
theorem dX12_condition_40 : decode cX12_condition 40 = .ok (.istore 4, 2) := by decide +kernel
theorem dX12_condition_42 : decode cX12_condition 42 = .ok (.iload_n 3, 1) := by decide +kernel
theorem dX12_condition_43 : decode cX12_condition 43 = .ok (.ifCond .ne 8, 3) := by decide +kernel
theorem dX12_condition_46 : decode cX12_condition 46 = .ok (.iload 4, 2) := by decide +kernel
theorem dX12_condition_48 : decode cX12_condition 48 = .ok (.ifCond .eq 7, 3) := by decide +kernel
theorem dX12_condition_51 : decode cX12_condition 51 = .ok (.iconst 1, 1) := by decide +kernel
theorem dX12_condition_52 : decode cX12_condition 52 = .ok (.goto 4, 3) := by decide +kernel
theorem dX12_condition_55 : decode cX12_condition 55 = .ok (.iconst 0, 1) := by decide +kernel
theorem dX12_condition_56 : decode cX12_condition 56 = .ok (.istore_n 3, 1) := by decide +kernel
theorem dX12_condition_57 : decode cX12_condition 57 = .ok (.goto (-50), 3) := by decide +kernel
theorem dX12_condition_60 : decode cX12_condition 60 = .ok (.iload_n 3, 1) := by decide +kernel
theorem dX12_condition_61 : decode cX12_condition 61 = .ok (.ireturn, 1) := by decide +kernel
def X12_condition_56 (n : Nat) (rf : Mm → Option (Bool × Mm)) (K7 : Bool → Mm → Option (Bool × Mm)) (s0 : Bool) (h : Mm) : Option (Bool × Mm) := (K7 s0 h)
set_option maxRecDepth 100000 in
set_option maxHeartbeats 4000000 in
theorem v_X12_condition_56 {X : WX} {G : GX} {o : Mm} {n : Nat} {rf : Mm → Option (Bool × Mm)} {dr : Nat} (hdr : 48 ≤ dr) (hrf : ∀   (h : Mm) (r : Bool) (h2 : Mm), rf  h = some (r, h2) → Sat X yX12_unit cX12_unit 3 (some .boolean) dr [.ref (xa X 251)] false o h (some (.int (b2i r))) h2) {K7 : Bool → Mm → Option (Bool × Mm)} {rv : Bool} {hz : Mm} (hK7 : ∀ (x3 : Bool) (h : Mm), K7 x3 h = some (rv, hz) → V X G RX12 cX12_condition 5 (some .boolean) (dr + 2) 0 0 (QR X G false o (some (.int (b2i rv))) hz) false o 7 [(0, .ref (xa X 251)), (3, .int (b2i x3))] [] h) {s0 : Bool} {h : Mm} (hF : X12_condition_56 n rf K7 s0 h = some (rv, hz)) : V X G RX12 cX12_condition 5 (some .boolean) (dr + 2) 0 0 (QR X G false o (some (.int (b2i rv))) hz) false o 56 [(0, .ref (xa X 251))] [.int (b2i s0)] h := by
  unfold X12_condition_56 at hF
  refine V.istore_n [(3, _), (0, _)] dX12_condition_56 rfl (by decide) rfl ?_
  refine V.goto (tgt := 7) dX12_condition_57 rfl ?_
  exact V.sub [1, 0] rfl (hK7 _ _ hF)
def X12_condition_51 (n : Nat) (rf : Mm → Option (Bool × Mm)) (K7 : Bool → Mm → Option (Bool × Mm)) (h : Mm) : Option (Bool × Mm) := (X12_condition_56 n rf K7 true h)
set_option maxRecDepth 100000 in
set_option maxHeartbeats 4000000 in
theorem v_X12_condition_51 {X : WX} {G : GX} {o : Mm} {n : Nat} {rf : Mm → Option (Bool × Mm)} {dr : Nat} (hdr : 48 ≤ dr) (hrf : ∀   (h : Mm) (r : Bool) (h2 : Mm), rf  h = some (r, h2) → Sat X yX12_unit cX12_unit 3 (some .boolean) dr [.ref (xa X 251)] false o h (some (.int (b2i r))) h2) {K7 : Bool → Mm → Option (Bool × Mm)} {rv : Bool} {hz : Mm} (hK7 : ∀ (x3 : Bool) (h : Mm), K7 x3 h = some (rv, hz) → V X G RX12 cX12_condition 5 (some .boolean) (dr + 2) 0 0 (QR X G false o (some (.int (b2i rv))) hz) false o 7 [(0, .ref (xa X 251)), (3, .int (b2i x3))] [] h) {h : Mm} (hF : X12_condition_51 n rf K7 h = some (rv, hz)) : V X G RX12 cX12_condition 5 (some .boolean) (dr + 2) 0 0 (QR X G false o (some (.int (b2i rv))) hz) false o 51 [(0, .ref (xa X 251))] [] h := by
  unfold X12_condition_51 at hF
  refine V.iconst (v := 1) dX12_condition_51 rfl ?_
  refine V.goto (tgt := 56) dX12_condition_52 rfl ?_
  exact (v_X12_condition_56 hdr hrf hK7 hF)
def X12_condition_60 (n : Nat) (rf : Mm → Option (Bool × Mm)) (x3 : Bool) (h : Mm) : Option (Bool × Mm) := (some (x3, h))
set_option maxRecDepth 100000 in
set_option maxHeartbeats 4000000 in
theorem v_X12_condition_60 {X : WX} {G : GX} {o : Mm} {n : Nat} {rf : Mm → Option (Bool × Mm)} {dr : Nat} (hdr : 48 ≤ dr) (hrf : ∀   (h : Mm) (r : Bool) (h2 : Mm), rf  h = some (r, h2) → Sat X yX12_unit cX12_unit 3 (some .boolean) dr [.ref (xa X 251)] false o h (some (.int (b2i r))) h2) {rv : Bool} {hz : Mm} {x3 : Bool} {h : Mm} (hF : X12_condition_60 n rf x3 h = some (rv, hz)) : V X G RX12 cX12_condition 5 (some .boolean) (dr + 2) 0 0 (QR X G false o (some (.int (b2i rv))) hz) false o 60 [(3, .int (b2i x3))] [] h := by
  unfold X12_condition_60 at hF
  refine V.iload_n 0 dX12_condition_60 rfl rfl ?_
  cases hF
  exact V.bret dX12_condition_61
def X12_condition_7 (n : Nat) (rf : Mm → Option (Bool × Mm)) : Nat → Bool → Mm → Option (Bool × Mm)
  | 0, _, _ => none
  | f + 1, x3, h => (if (h.1 251 11) = (-1 : Int32) then (bd (X12_look n h) (fun r19 h21 => (if r19 = (124 : Int32) then (bd (X12_part n rf false (0 : Int32) (wI h21 251 10 ((h21.1 251 10) + (1 : Int32)))) (fun r22 h24 => (if x3 = true then (X12_condition_51 n rf (X12_condition_7 n rf f) h24) else (if r22 = true then (X12_condition_51 n rf (X12_condition_7 n rf f) h24) else (X12_condition_56 n rf (X12_condition_7 n rf f) false h24))))) else (X12_condition_60 n rf x3 h21)))) else (X12_condition_60 n rf x3 h))
set_option maxRecDepth 100000 in
set_option maxHeartbeats 4000000 in
theorem v_X12_condition_7 {X : WX} {G : GX} {o : Mm} {n : Nat} {rf : Mm → Option (Bool × Mm)} {dr : Nat} (hdr : 48 ≤ dr) (hrf : ∀   (h : Mm) (r : Bool) (h2 : Mm), rf  h = some (r, h2) → Sat X yX12_unit cX12_unit 3 (some .boolean) dr [.ref (xa X 251)] false o h (some (.int (b2i r))) h2) {rv : Bool} {hz : Mm} : ∀ (f : Nat) (x3 : Bool) (h : Mm), X12_condition_7 n rf f x3 h = some (rv, hz) → V X G RX12 cX12_condition 5 (some .boolean) (dr + 2) 0 0 (QR X G false o (some (.int (b2i rv))) hz) false o 7 [(0, .ref (xa X 251)), (3, .int (b2i x3))] [] h := by
  intro f
  induction f with
  | zero => intro x3 h hF; exact nomatch (show (none : Option (Bool × Mm)) = some (rv, hz) from hF)
  | succ f ih =>
    intro x3 h hF
    unfold X12_condition_7 at hF
    refine V.aload_n 0 dX12_condition_7 rfl rfl ?_
    refine V.getI fl_X12_125 sh_251 rfl km_251 dX12_condition_8 ?_
    refine V.iconst (v := -1) dX12_condition_11 rfl ?_
    refine V.icmp_ne (tgt := 60) dX12_condition_12 rfl (fun c => ?_) (fun c => ?_)
    · replace hF := iq c hF
      exact V.sub [1] rfl (v_X12_condition_60 hdr hrf hF)
    · replace hF := ip c hF
      refine V.aload_n 0 dX12_condition_15 rfl rfl ?_
      obtain ⟨r19, h21, hc20, hF⟩ := bd_s hF
      refine V.callVi mf_X12_look ml_X12_135 sh_251 (s_X12_look hc20) (by omega) rfl rfl (Nat.le_of_ble_eq_true rfl) dX12_condition_16 ?_
      refine V.bipush (v := 124) dX12_condition_19 (by decide) ?_
      refine V.icmp_ne (tgt := 60) dX12_condition_21 rfl (fun c => ?_) (fun c => ?_)
      · replace hF := iq c hF
        exact V.sub [1] rfl (v_X12_condition_60 hdr hrf hF)
      · replace hF := ip c hF
        refine V.aload_n 0 dX12_condition_24 rfl rfl ?_
        refine V.dup dX12_condition_25 rfl ?_
        refine V.getI fl_X12_116 sh_251 rfl km_251 dX12_condition_26 ?_
        refine V.iconst (v := 1) dX12_condition_29 rfl ?_
        refine V.iadd dX12_condition_30 ?_
        refine V.putI fl_X12_116 rfl (tyX12_ok 10 (by decide)) rfl rfl sh_251 rfl km_251 dX12_condition_31 ?_
        refine V.aload_n 0 dX12_condition_34 rfl rfl ?_
        refine V.iconst (v := 0) dX12_condition_35 rfl ?_
        refine V.iconst (v := 0) dX12_condition_36 rfl ?_
        obtain ⟨r22, h24, hc23, hF⟩ := bd_s hF
        refine V.callVi mf_X12_part ml_X12_191 sh_251 (s_X12_part hdr hrf hc23) (by omega) rfl rfl (Nat.le_of_ble_eq_true rfl) dX12_condition_37 ?_
        refine V.istore [(4, _), (0, _), (3, _)] dX12_condition_40 (by decide) rfl ?_
        refine V.iload_n 2 dX12_condition_42 rfl rfl ?_
        refine V.ifz_ne (tgt := 51) dX12_condition_43 rfl (fun c => ?_) (fun c => ?_)
        · replace hF := ip c hF
          exact V.sub [1] rfl (v_X12_condition_51 hdr hrf ih hF)
        · replace hF := iq c hF
          refine V.iload 0 dX12_condition_46 rfl ?_
          refine V.ifz_eq (tgt := 55) dX12_condition_48 rfl (fun c => ?_) (fun c => ?_)
          · replace hF := iq c hF
            refine V.iconst (v := 0) dX12_condition_55 rfl ?_
            exact V.sub [1] rfl (v_X12_condition_56 hdr hrf ih hF)
          · replace hF := ip c hF
            exact V.sub [1] rfl (v_X12_condition_51 hdr hrf ih hF)
def X12_condition (n : Nat) (rf : Mm → Option (Bool × Mm)) (x1 : Bool) (x2 : Int32) (h : Mm) : Option (Bool × Mm) := (bd (X12_part n rf x1 x2 h) (fun r25 h27 => (X12_condition_7 n rf n r25 h27)))
set_option maxRecDepth 100000 in
set_option maxHeartbeats 4000000 in
theorem s_X12_condition {X : WX} {o : Mm} {n : Nat} {rf : Mm → Option (Bool × Mm)} {dr : Nat} (hdr : 48 ≤ dr) (hrf : ∀   (h : Mm) (r : Bool) (h2 : Mm), rf  h = some (r, h2) → Sat X yX12_unit cX12_unit 3 (some .boolean) dr [.ref (xa X 251)] false o h (some (.int (b2i r))) h2) {x1 : Bool} {x2 : Int32} {rv : Bool} {hz : Mm} {h : Mm} (hF : X12_condition n rf x1 x2 h = some (rv, hz)) : Sat X yX12_condition cX12_condition 5 (some .boolean) (dr + 2) [.ref (xa X 251), .int (b2i x1), .int x2] false o h (some (.int (b2i rv))) hz := by
  unfold X12_condition at hF
  refine Sat.mk (own := RX12) rfl (by decide +kernel) (Nat.le_of_ble_eq_true rfl) (fun G => ?_)
  refine V.sub (lv2 := [(0, _), (1, _), (2, _)]) [0, 1, 2] rfl ?_
  refine V.aload_n 0 dX12_condition_0 rfl rfl ?_
  refine V.iload_n 1 dX12_condition_1 rfl rfl ?_
  refine V.iload_n 2 dX12_condition_2 rfl rfl ?_
  obtain ⟨r25, h27, hc26, hF⟩ := bd_s hF
  refine V.callVi mf_X12_part ml_X12_191 sh_251 (s_X12_part hdr hrf hc26) (by omega) rfl rfl (Nat.le_of_ble_eq_true rfl) dX12_condition_3 ?_
  refine V.istore_n [(3, _), (0, _), (1, _), (2, _)] dX12_condition_6 rfl (by decide) rfl ?_
  exact V.sub [1, 0] rfl (v_X12_condition_7 hdr hrf n _ _ hF)
/-! MonsterCotModel.unit -/
theorem dX12_unit_0 : decode cX12_unit 0 = .ok (.aload_n 0, 1) := by decide +kernel
theorem dX12_unit_1 : decode cX12_unit 1 = .ok (.invokevirtual 135, 3) := by decide +kernel
theorem dX12_unit_4 : decode cX12_unit 4 = .ok (.istore_n 1, 1) := by decide +kernel
theorem dX12_unit_5 : decode cX12_unit 5 = .ok (.iload_n 1, 1) := by decide +kernel
theorem dX12_unit_6 : decode cX12_unit 6 = .ok (.bipush 33, 2) := by decide +kernel
theorem dX12_unit_8 : decode cX12_unit 8 = .ok (.if_icmp .ne 37, 3) := by decide +kernel
theorem dX12_unit_11 : decode cX12_unit 11 = .ok (.aload_n 0, 1) := by decide +kernel
theorem dX12_unit_12 : decode cX12_unit 12 = .ok (.invokevirtual 155, 3) := by decide +kernel
theorem dX12_unit_15 : decode cX12_unit 15 = .ok (.ifCond .ne 5, 3) := by decide +kernel
theorem dX12_unit_18 : decode cX12_unit 18 = .ok (.iconst 0, 1) := by decide +kernel
theorem dX12_unit_19 : decode cX12_unit 19 = .ok (.ireturn, 1) := by decide +kernel
theorem dX12_unit_20 : decode cX12_unit 20 = .ok (.aload_n 0, 1) := by decide +kernel
theorem dX12_unit_21 : decode cX12_unit 21 = .ok (.invokevirtual 181, 3) := by decide +kernel
theorem dX12_unit_24 : decode cX12_unit 24 = .ok (.istore_n 2, 1) := by decide +kernel
theorem dX12_unit_25 : decode cX12_unit 25 = .ok (.aload_n 0, 1) := by decide +kernel
theorem dX12_unit_26 : decode cX12_unit 26 = .ok (.dup, 1) := by decide +kernel
theorem dX12_unit_27 : decode cX12_unit 27 = .ok (.getfield 128, 3) := by decide +kernel
theorem dX12_unit_30 : decode cX12_unit 30 = .ok (.iconst 1, 1) := by decide +kernel
theorem dX12_unit_31 : decode cX12_unit 31 = .ok (.isub, 1) := by decide +kernel
theorem dX12_unit_32 : decode cX12_unit 32 = .ok (.putfield 128, 3) := by decide +kernel
theorem dX12_unit_35 : decode cX12_unit 35 = .ok (.iload_n 2, 1) := by decide +kernel
theorem dX12_unit_36 : decode cX12_unit 36 = .ok (.ifCond .ne 7, 3) := by decide +kernel
theorem dX12_unit_39 : decode cX12_unit 39 = .ok (.iconst 1, 1) := by decide +kernel
theorem dX12_unit_40 : decode cX12_unit 40 = .ok (.goto 4, 3) := by decide +kernel
theorem dX12_unit_43 : decode cX12_unit 43 = .ok (.iconst 0, 1) := by decide +kernel
theorem dX12_unit_44 : decode cX12_unit 44 = .ok (.ireturn, 1) := by decide +kernel
theorem dX12_unit_45 : decode cX12_unit 45 = .ok (.iload_n 1, 1) := by decide +kernel
theorem dX12_unit_46 : decode cX12_unit 46 = .ok (.bipush 40, 2) := by decide +kernel
theorem dX12_unit_48 : decode cX12_unit 48 = .ok (.if_icmp .ne 42, 3) := by decide +kernel
theorem dX12_unit_51 : decode cX12_unit 51 = .ok (.aload_n 0, 1) := by decide +kernel
theorem dX12_unit_52 : decode cX12_unit 52 = .ok (.invokevirtual 155, 3) := by decide +kernel
theorem dX12_unit_55 : decode cX12_unit 55 = .ok (.ifCond .ne 5, 3) := by decide +kernel
theorem dX12_unit_58 : decode cX12_unit 58 = .ok (.iconst 0, 1) := by decide +kernel
theorem dX12_unit_59 : decode cX12_unit 59 = .ok (.ireturn, 1) := by decide +kernel
theorem dX12_unit_60 : decode cX12_unit 60 = .ok (.aload_n 0, 1) := by decide +kernel
theorem dX12_unit_61 : decode cX12_unit 61 = .ok (.iconst 0, 1) := by decide +kernel
theorem dX12_unit_62 : decode cX12_unit 62 = .ok (.iconst 0, 1) := by decide +kernel
theorem dX12_unit_63 : decode cX12_unit 63 = .ok (.invokevirtual 184, 3) := by decide +kernel
theorem dX12_unit_66 : decode cX12_unit 66 = .ok (.istore_n 2, 1) := by decide +kernel
theorem dX12_unit_67 : decode cX12_unit 67 = .ok (.aload_n 0, 1) := by decide +kernel
theorem dX12_unit_68 : decode cX12_unit 68 = .ok (.bipush 41, 2) := by decide +kernel
theorem dX12_unit_70 : decode cX12_unit 70 = .ok (.invokevirtual 161, 3) := by decide +kernel
theorem dX12_unit_73 : decode cX12_unit 73 = .ok (.ifCond .ne 5, 3) := by decide +kernel
theorem dX12_unit_76 : decode cX12_unit 76 = .ok (.iconst 0, 1) := by decide +kernel
theorem dX12_unit_77 : decode cX12_unit 77 = .ok (.ireturn, 1) := by decide +kernel
theorem dX12_unit_78 : decode cX12_unit 78 = .ok (.aload_n 0, 1) := by decide +kernel
theorem dX12_unit_79 : decode cX12_unit 79 = .ok (.dup, 1) := by decide +kernel
theorem dX12_unit_80 : decode cX12_unit 80 = .ok (.getfield 128, 3) := by decide +kernel
theorem dX12_unit_83 : decode cX12_unit 83 = .ok (.iconst 1, 1) := by decide +kernel
theorem dX12_unit_84 : decode cX12_unit 84 = .ok (.isub, 1) := by decide +kernel
theorem dX12_unit_85 : decode cX12_unit 85 = .ok (.putfield 128, 3) := by decide +kernel
theorem dX12_unit_88 : decode cX12_unit 88 = .ok (.iload_n 2, 1) := by decide +kernel
theorem dX12_unit_89 : decode cX12_unit 89 = .ok (.ireturn, 1) := by decide +kernel
theorem dX12_unit_90 : decode cX12_unit 90 = .ok (.aload_n 0, 1) := by decide +kernel
theorem dX12_unit_91 : decode cX12_unit 91 = .ok (.iconst 0, 1) := by decide +kernel
theorem dX12_unit_92 : decode cX12_unit 92 = .ok (.iconst 0, 1) := by decide +kernel
theorem dX12_unit_93 : decode cX12_unit 93 = .ok (.invokevirtual 188, 3) := by decide +kernel
theorem dX12_unit_96 : decode cX12_unit 96 = .ok (.ireturn, 1) := by decide +kernel
def X12_unit_b (n : Nat) (rf : Mm → Option (Bool × Mm)) (h : Mm) : Option (Bool × Mm) := (bd (X12_look n h) (fun r22 h24 => (if r22 = (33 : Int32) then (bd (X12_goesIn h24) (fun r37 h39 => (if r37 = true then (bd (rf h39) (fun r40 h42 => (if r40 = true then (some (false, (wI h42 251 12 ((h42.1 251 12) - (1 : Int32))))) else (some (true, (wI h42 251 12 ((h42.1 251 12) - (1 : Int32)))))))) else (some (false, h39))))) else (if r22 = (40 : Int32) then (bd (X12_goesIn h24) (fun r28 h30 => (if r28 = true then (bd (X12_condition n rf false (0 : Int32) h30) (fun r31 h33 => (bd (X12_takes n (41 : Int32) h33) (fun r34 h36 => (if r34 = true then (some (r31, (wI h36 251 12 ((h36.1 251 12) - (1 : Int32))))) else (some (false, h36))))))) else (some (false, h30))))) else (bd (X12_compares n false (0 : Int32) h24) (fun r25 h27 => (some (r25, h27))))))))
set_option maxRecDepth 100000 in
set_option maxHeartbeats 4000000 in
theorem s_X12_unit_b {X : WX} {o : Mm} {n : Nat} {rf : Mm → Option (Bool × Mm)} {dr : Nat} (hdr : 48 ≤ dr) (hrf : ∀   (h : Mm) (r : Bool) (h2 : Mm), rf  h = some (r, h2) → Sat X yX12_unit cX12_unit 3 (some .boolean) dr [.ref (xa X 251)] false o h (some (.int (b2i r))) h2) {DD : Nat} (hDD : dr + 3 ≤ DD) {rv : Bool} {hz : Mm} {h : Mm} (hF : X12_unit_b n rf h = some (rv, hz)) : Sat X yX12_unit cX12_unit 3 (some .boolean) DD [.ref (xa X 251)] false o h (some (.int (b2i rv))) hz := by
  unfold X12_unit_b at hF
  refine Sat.mk (own := RX12) rfl (by decide +kernel) (Nat.le_of_ble_eq_true rfl) (fun G => ?_)
  refine V.sub (lv2 := [(0, _)]) [0] rfl ?_
  refine V.aload_n 0 dX12_unit_0 rfl rfl ?_
  obtain ⟨r22, h24, hc23, hF⟩ := bd_s hF
  refine V.callVi mf_X12_look ml_X12_135 sh_251 (s_X12_look hc23) (by omega) rfl rfl (Nat.le_of_ble_eq_true rfl) dX12_unit_1 ?_
  refine V.istore_n [(1, _), (0, _)] dX12_unit_4 rfl (by decide) rfl ?_
  refine V.iload_n 0 dX12_unit_5 rfl rfl ?_
  refine V.bipush (v := 33) dX12_unit_6 (by decide) ?_
  refine V.icmp_ne (tgt := 45) dX12_unit_8 rfl (fun c => ?_) (fun c => ?_)
  · replace hF := iq c hF
    refine V.iload_n 0 dX12_unit_45 rfl rfl ?_
    refine V.bipush (v := 40) dX12_unit_46 (by decide) ?_
    refine V.icmp_ne (tgt := 90) dX12_unit_48 rfl (fun c => ?_) (fun c => ?_)
    · replace hF := iq c hF
      refine V.aload_n 1 dX12_unit_90 rfl rfl ?_
      refine V.iconst (v := 0) dX12_unit_91 rfl ?_
      refine V.iconst (v := 0) dX12_unit_92 rfl ?_
      obtain ⟨r25, h27, hc26, hF⟩ := bd_s hF
      refine V.callVi mf_X12_compares ml_X12_188 sh_251 (s_X12_compares hc26) (by omega) rfl rfl (Nat.le_of_ble_eq_true rfl) dX12_unit_93 ?_
      cases hF
      exact V.bret dX12_unit_96
    · replace hF := ip c hF
      refine V.aload_n 1 dX12_unit_51 rfl rfl ?_
      obtain ⟨r28, h30, hc29, hF⟩ := bd_s hF
      refine V.callVi mf_X12_goesIn ml_X12_155 sh_251 (s_X12_goesIn hc29) (by omega) rfl rfl (Nat.le_of_ble_eq_true rfl) dX12_unit_52 ?_
      refine V.ifz_ne (tgt := 60) dX12_unit_55 rfl (fun c => ?_) (fun c => ?_)
      · replace hF := ip c hF
        refine V.aload_n 1 dX12_unit_60 rfl rfl ?_
        refine V.iconst (v := 0) dX12_unit_61 rfl ?_
        refine V.iconst (v := 0) dX12_unit_62 rfl ?_
        obtain ⟨r31, h33, hc32, hF⟩ := bd_s hF
        refine V.callVi mf_X12_condition ml_X12_184 sh_251 (s_X12_condition hdr hrf hc32) (by omega) rfl rfl (Nat.le_of_ble_eq_true rfl) dX12_unit_63 ?_
        refine V.istore_n [(2, _), (1, _), (0, _)] dX12_unit_66 rfl (by decide) rfl ?_
        refine V.aload_n 2 dX12_unit_67 rfl rfl ?_
        refine V.bipush (v := 41) dX12_unit_68 (by decide) ?_
        obtain ⟨r34, h36, hc35, hF⟩ := bd_s hF
        refine V.callVi mf_X12_takes ml_X12_161 sh_251 (s_X12_takes hc35) (by omega) rfl rfl (Nat.le_of_ble_eq_true rfl) dX12_unit_70 ?_
        refine V.ifz_ne (tgt := 78) dX12_unit_73 rfl (fun c => ?_) (fun c => ?_)
        · replace hF := ip c hF
          refine V.aload_n 2 dX12_unit_78 rfl rfl ?_
          refine V.dup dX12_unit_79 rfl ?_
          refine V.getI fl_X12_128 sh_251 rfl km_251 dX12_unit_80 ?_
          refine V.iconst (v := 1) dX12_unit_83 rfl ?_
          refine V.isub dX12_unit_84 ?_
          refine V.putI fl_X12_128 rfl (tyX12_ok 12 (by decide)) rfl rfl sh_251 rfl km_251 dX12_unit_85 ?_
          refine V.iload_n 0 dX12_unit_88 rfl rfl ?_
          cases hF
          exact V.bret dX12_unit_89
        · replace hF := iq c hF
          refine V.iconst (v := 0) dX12_unit_76 rfl ?_
          cases hF
          exact V.bret dX12_unit_77
      · replace hF := iq c hF
        refine V.iconst (v := 0) dX12_unit_58 rfl ?_
        cases hF
        exact V.bret dX12_unit_59
  · replace hF := ip c hF
    refine V.aload_n 1 dX12_unit_11 rfl rfl ?_
    obtain ⟨r37, h39, hc38, hF⟩ := bd_s hF
    refine V.callVi mf_X12_goesIn ml_X12_155 sh_251 (s_X12_goesIn hc38) (by omega) rfl rfl (Nat.le_of_ble_eq_true rfl) dX12_unit_12 ?_
    refine V.ifz_ne (tgt := 20) dX12_unit_15 rfl (fun c => ?_) (fun c => ?_)
    · replace hF := ip c hF
      refine V.aload_n 1 dX12_unit_20 rfl rfl ?_
      obtain ⟨r40, h42, hc41, hF⟩ := bd_s hF
      refine V.callVi mf_X12_unit ml_X12_181 sh_251 (hrf _ _ _ hc41) (by omega) rfl rfl (Nat.le_of_ble_eq_true rfl) dX12_unit_21 ?_
      refine V.istore_n [(2, _), (1, _), (0, _)] dX12_unit_24 rfl (by decide) rfl ?_
      refine V.aload_n 2 dX12_unit_25 rfl rfl ?_
      refine V.dup dX12_unit_26 rfl ?_
      refine V.getI fl_X12_128 sh_251 rfl km_251 dX12_unit_27 ?_
      refine V.iconst (v := 1) dX12_unit_30 rfl ?_
      refine V.isub dX12_unit_31 ?_
      refine V.putI fl_X12_128 rfl (tyX12_ok 12 (by decide)) rfl rfl sh_251 rfl km_251 dX12_unit_32 ?_
      refine V.iload_n 0 dX12_unit_35 rfl rfl ?_
      refine V.ifz_ne (tgt := 43) dX12_unit_36 rfl (fun c => ?_) (fun c => ?_)
      · replace hF := ip c hF
        refine V.iconst (v := 0) dX12_unit_43 rfl ?_
        cases hF
        exact V.bret dX12_unit_44
      · replace hF := iq c hF
        refine V.iconst (v := 1) dX12_unit_39 rfl ?_
        refine V.goto (tgt := 44) dX12_unit_40 rfl ?_
        cases hF
        exact V.bret dX12_unit_44
    · replace hF := iq c hF
      refine V.iconst (v := 0) dX12_unit_18 rfl ?_
      cases hF
      exact V.bret dX12_unit_19
def X12_unit (n : Nat) : Nat → Mm → Option (Bool × Mm)
  | 0, _ => none
  | e + 1, h => X12_unit_b n (X12_unit n e)  h
set_option maxRecDepth 100000 in
set_option maxHeartbeats 4000000 in
theorem s_X12_unit {X : WX} {o : Mm} {n : Nat} : ∀ (e : Nat)  (h : Mm) (rv : Bool) (hz : Mm), X12_unit n e  h = some (rv, hz) → Sat X yX12_unit cX12_unit 3 (some .boolean) (48 + 4 * e) [.ref (xa X 251)] false o h (some (.int (b2i rv))) hz := by
  intro e
  induction e with
  | zero => intro  h rv hz hF; exact nomatch (show (none : Option (Bool × Mm)) = some (rv, hz) from hF)
  | succ e ih => intro  h rv hz hF; exact s_X12_unit_b (dr := 48 + 4 * e) (by omega) ih (by omega)  hF
/-! MonsterCotModel.clause -/
theorem dX12_clause_0 : decode cX12_clause 0 = .ok (.aload_n 0, 1) := by decide +kernel
theorem dX12_clause_1 : decode cX12_clause 1 = .ok (.invokevirtual 135, 3) := by decide +kernel
theorem dX12_clause_4 : decode cX12_clause 4 = .ok (.istore_n 1, 1) := by decide +kernel
theorem dX12_clause_5 : decode cX12_clause 5 = .ok (.ldc 26, 2) := by decide +kernel
theorem dX12_clause_7 : decode cX12_clause 7 = .ok (.iload_n 1, 1) := by decide +kernel
theorem dX12_clause_8 : decode cX12_clause 8 = .ok (.invokestatic 151, 3) := by decide +kernel
theorem dX12_clause_11 : decode cX12_clause 11 = .ok (.ifCond .ne 9, 3) := by decide +kernel
theorem dX12_clause_14 : decode cX12_clause 14 = .ok (.aload_n 0, 1) := by decide +kernel
theorem dX12_clause_15 : decode cX12_clause 15 = .ok (.invokevirtual 131, 3) := by decide +kernel
theorem dX12_clause_18 : decode cX12_clause 18 = .ok (.pop, 1) := by decide +kernel
theorem dX12_clause_19 : decode cX12_clause 19 = .ok (.return_, 1) := by decide +kernel
theorem dX12_clause_20 : decode cX12_clause 20 = .ok (.aload_n 0, 1) := by decide +kernel
theorem dX12_clause_21 : decode cX12_clause 21 = .ok (.dup, 1) := by decide +kernel
theorem dX12_clause_22 : decode cX12_clause 22 = .ok (.getfield 116, 3) := by decide +kernel
theorem dX12_clause_25 : decode cX12_clause 25 = .ok (.iconst 1, 1) := by decide +kernel
theorem dX12_clause_26 : decode cX12_clause 26 = .ok (.iadd, 1) := by decide +kernel
theorem dX12_clause_27 : decode cX12_clause 27 = .ok (.putfield 116, 3) := by decide +kernel
theorem dX12_clause_30 : decode cX12_clause 30 = .ok (.aload_n 0, 1) := by decide +kernel
theorem dX12_clause_31 : decode cX12_clause 31 = .ok (.bipush 58, 2) := by decide +kernel
theorem dX12_clause_33 : decode cX12_clause 33 = .ok (.invokevirtual 161, 3) := by decide +kernel
theorem dX12_clause_36 : decode cX12_clause 36 = .ok (.ifCond .ne 4, 3) := by decide +kernel
theorem dX12_clause_39 : decode cX12_clause 39 = .ok (.return_, 1) := by decide +kernel
theorem dX12_clause_40 : decode cX12_clause 40 = .ok (.iconst 1, 1) := by decide +kernel
theorem dX12_clause_41 : decode cX12_clause 41 = .ok (.istore_n 2, 1) := by decide +kernel
theorem dX12_clause_42 : decode cX12_clause 42 = .ok (.iconst 0, 1) := by decide +kernel
theorem dX12_clause_43 : decode cX12_clause 43 = .ok (.istore_n 3, 1) := by decide +kernel
theorem dX12_clause_44 : decode cX12_clause 44 = .ok (.aload_n 0, 1) := by decide +kernel
theorem dX12_clause_45 : decode cX12_clause 45 = .ok (.invokevirtual 135, 3) := by decide +kernel
theorem dX12_clause_48 : decode cX12_clause 48 = .ok (.istore 4, 2) := by decide +kernel
theorem dX12_clause_50 : decode cX12_clause 50 = .ok (.iload 4, 2) := by decide +kernel
theorem dX12_clause_52 : decode cX12_clause 52 = .ok (.bipush 33, 2) := by decide +kernel
theorem dX12_clause_54 : decode cX12_clause 54 = .ok (.if_icmp .eq 10, 3) := by decide +kernel
theorem dX12_clause_57 : decode cX12_clause 57 = .ok (.iload 4, 2) := by decide +kernel
theorem dX12_clause_59 : decode cX12_clause 59 = .ok (.bipush 40, 2) := by decide +kernel
theorem dX12_clause_61 : decode cX12_clause 61 = .ok (.if_icmp .ne 28, 3) := by decide +kernel
theorem dX12_clause_64 : decode cX12_clause 64 = .ok (.aload_n 0, 1) := by decide +kernel
theorem dX12_clause_65 : decode cX12_clause 65 = .ok (.iconst 0, 1) := by decide +kernel
theorem dX12_clause_66 : decode cX12_clause 66 = .ok (.iconst 0, 1) := by decide +kernel
theorem dX12_clause_67 : decode cX12_clause 67 = .ok (.invokevirtual 184, 3) := by decide +kernel
theorem dX12_clause_70 : decode cX12_clause 70 = .ok (.istore_n 2, 1) := by decide +kernel
theorem dX12_clause_71 : decode cX12_clause 71 = .ok (.aload_n 0, 1) := by decide +kernel
theorem dX12_clause_72 : decode cX12_clause 72 = .ok (.bipush 63, 2) := by decide +kernel
theorem dX12_clause_74 : decode cX12_clause 74 = .ok (.invokevirtual 161, 3) := by decide +kernel
theorem dX12_clause_77 : decode cX12_clause 77 = .ok (.ifCond .ne 4, 3) := by decide +kernel
theorem dX12_clause_80 : decode cX12_clause 80 = .ok (.return_, 1) := by decide +kernel
theorem dX12_clause_81 : decode cX12_clause 81 = .ok (.aload_n 0, 1) := by decide +kernel
theorem dX12_clause_82 : decode cX12_clause 82 = .ok (.invokevirtual 158, 3) := by decide +kernel
theorem dX12_clause_85 : decode cX12_clause 85 = .ok (.istore_n 3, 1) := by decide +kernel
theorem dX12_clause_86 : decode cX12_clause 86 = .ok (.goto 48, 3) := by decide +kernel
theorem dX12_clause_89 : decode cX12_clause 89 = .ok (.aload_n 0, 1) := by decide +kernel
theorem dX12_clause_90 : decode cX12_clause 90 = .ok (.invokevirtual 158, 3) := by decide +kernel
theorem dX12_clause_93 : decode cX12_clause 93 = .ok (.istore_n 3, 1) := by decide +kernel
theorem dX12_clause_94 : decode cX12_clause 94 = .ok (.aload_n 0, 1) := by decide +kernel
theorem dX12_clause_95 : decode cX12_clause 95 = .ok (.getfield 125, 3) := by decide +kernel
theorem dX12_clause_98 : decode cX12_clause 98 = .ok (.iconst (-1), 1) := by decide +kernel
theorem dX12_clause_99 : decode cX12_clause 99 = .ok (.if_icmp .ne 35, 3) := by decide +kernel
theorem dX12_clause_102 : decode cX12_clause 102 = .ok (.aload_n 0, 1) := by decide +kernel
theorem dX12_clause_103 : decode cX12_clause 103 = .ok (.invokevirtual 135, 3) := by decide +kernel
theorem dX12_clause_106 : decode cX12_clause 106 = .ok (.invokestatic 178, 3) := by decide +kernel
theorem dX12_clause_109 : decode cX12_clause 109 = .ok (.ifCond .eq 25, 3) := by decide +kernel
theorem dX12_clause_112 : decode cX12_clause 112 = .ok (.aload_n 0, 1) := by decide +kernel
theorem dX12_clause_113 : decode cX12_clause 113 = .ok (.iconst 1, 1) := by decide +kernel
theorem dX12_clause_114 : decode cX12_clause 114 = .ok (.iload_n 3, 1) := by decide +kernel
theorem dX12_clause_115 : decode cX12_clause 115 = .ok (.invokevirtual 184, 3) := by decide +kernel
theorem dX12_clause_118 : decode cX12_clause 118 = .ok (.istore_n 2, 1) := by decide +kernel
theorem dX12_clause_119 : decode cX12_clause 119 = .ok (.aload_n 0, 1) := by decide +kernel
theorem dX12_clause_120 : decode cX12_clause 120 = .ok (.bipush 63, 2) := by decide +kernel
theorem dX12_clause_122 : decode cX12_clause 122 = .ok (.invokevirtual 161, 3) := by decide +kernel
theorem dX12_clause_125 : decode cX12_clause 125 = .ok (.ifCond .ne 4, 3) := by decide +kernel
theorem dX12_clause_128 : decode cX12_clause 128 = .ok (.return_, 1) := by decide +kernel
theorem dX12_clause_129 : decode cX12_clause 129 = .ok (.aload_n 0, 1) := by decide +kernel
theorem dX12_clause_130 : decode cX12_clause 130 = .ok (.invokevirtual 158, 3) := by decide +kernel
theorem dX12_clause_133 : decode cX12_clause 133 = .ok (.istore_n 3, 1) := by decide +kernel
theorem dX12_clause_134 : decode cX12_clause 134 = .ok (.aload_n 0, 1) := by decide +kernel
theorem dX12_clause_135 : decode cX12_clause 135 = .ok (.getfield 125, 3) := by decide +kernel
theorem dX12_clause_138 : decode cX12_clause 138 = .ok (.iconst (-1), 1) := by decide +kernel
theorem dX12_clause_139 : decode cX12_clause 139 = .ok (.if_icmp .ne 22, 3) := by decide +kernel
theorem dX12_clause_142 : decode cX12_clause 142 = .ok (.aload_n 0, 1) := by decide +kernel
theorem dX12_clause_143 : decode cX12_clause 143 = .ok (.getfield 194, 3) := by decide +kernel
theorem dX12_clause_146 : decode cX12_clause 146 = .ok (.ifCond .ne 15, 3) := by decide +kernel
theorem dX12_clause_149 : decode cX12_clause 149 = .ok (.iload_n 1, 1) := by decide +kernel
theorem dX12_clause_150 : decode cX12_clause 150 = .ok (.aload_n 0, 1) := by decide +kernel
theorem dX12_clause_151 : decode cX12_clause 151 = .ok (.getfield 198, 3) := by decide +kernel
theorem dX12_clause_154 : decode cX12_clause 154 = .ok (.if_icmp .ne 7, 3) := by decide +kernel
theorem dX12_clause_157 : decode cX12_clause 157 = .ok (.iload_n 2, 1) := by decide +kernel
theorem dX12_clause_158 : decode cX12_clause 158 = .ok (.ifCond .ne 4, 3) := by decide +kernel
theorem dX12_clause_161 : decode cX12_clause 161 = .ok (.return_, 1) := by decide +kernel
theorem dX12_clause_162 : decode cX12_clause 162 = .ok (.aload_n 0, 1) := by decide +kernel
theorem dX12_clause_163 : decode cX12_clause 163 = .ok (.iconst 1, 1) := by decide +kernel
theorem dX12_clause_164 : decode cX12_clause 164 = .ok (.putfield 194, 3) := by decide +kernel
theorem dX12_clause_167 : decode cX12_clause 167 = .ok (.aload_n 0, 1) := by decide +kernel
theorem dX12_clause_168 : decode cX12_clause 168 = .ok (.iload_n 3, 1) := by decide +kernel
theorem dX12_clause_169 : decode cX12_clause 169 = .ok (.putfield 201, 3) := by decide +kernel
theorem dX12_clause_172 : decode cX12_clause 172 = .ok (.return_, 1) := by decide +kernel
def X12_clause_134 (n : Nat) (x1 : Int32) (x2 : Bool) (x3 : Int32) (h : Mm) : Option (Unit × Mm) := (if (h.1 251 11) = (-1 : Int32) then (if (h.1 251 17) = 0 then (if x1 = (h.1 251 13) then (if x2 = true then (some ((), (wI (wI h 251 17 (1 : Int32)) 251 14 x3))) else (some ((), h))) else (some ((), h))) else (some ((), h))) else (some ((), h)))
set_option maxRecDepth 100000 in
set_option maxHeartbeats 4000000 in
theorem v_X12_clause_134 {X : WX} {G : GX} {o : Mm} {n : Nat} {rv : Unit} {hz : Mm} {x1 : Int32} {x2 : Bool} {x3 : Int32} {h : Mm} (hF : X12_clause_134 n x1 x2 x3 h = some (rv, hz)) : V X G RX12 cX12_clause 5 (none) 87 0 0 (QR X G false o none hz) false o 134 [(0, .ref (xa X 251)), (1, .int x1), (2, .int (b2i x2)), (3, .int x3)] [] h := by
  unfold X12_clause_134 at hF
  refine V.aload_n 0 dX12_clause_134 rfl rfl ?_
  refine V.getI fl_X12_125 sh_251 rfl km_251 dX12_clause_135 ?_
  refine V.iconst (v := -1) dX12_clause_138 rfl ?_
  refine V.icmp_ne (tgt := 161) dX12_clause_139 rfl (fun c => ?_) (fun c => ?_)
  · replace hF := iq c hF
    cases hF
    exact V.vret dX12_clause_161
  · replace hF := ip c hF
    refine V.aload_n 0 dX12_clause_142 rfl rfl ?_
    refine V.getI fl_X12_194 sh_251 rfl km_251 dX12_clause_143 ?_
    refine V.if_ne (tgt := 161) dX12_clause_146 rfl (fun c => ?_) (fun c => ?_)
    · replace hF := iq c hF
      cases hF
      exact V.vret dX12_clause_161
    · replace hF := ip c hF
      refine V.iload_n 1 dX12_clause_149 rfl rfl ?_
      refine V.aload_n 0 dX12_clause_150 rfl rfl ?_
      refine V.getI fl_X12_198 sh_251 rfl km_251 dX12_clause_151 ?_
      refine V.icmp_ne (tgt := 161) dX12_clause_154 rfl (fun c => ?_) (fun c => ?_)
      · replace hF := iq c hF
        cases hF
        exact V.vret dX12_clause_161
      · replace hF := ip c hF
        refine V.iload_n 2 dX12_clause_157 rfl rfl ?_
        refine V.ifz_ne (tgt := 162) dX12_clause_158 rfl (fun c => ?_) (fun c => ?_)
        · replace hF := ip c hF
          refine V.aload_n 0 dX12_clause_162 rfl rfl ?_
          refine V.iconst (v := 1) dX12_clause_163 rfl ?_
          refine V.putI fl_X12_194 rfl (tyX12_ok 17 (by decide)) rfl rfl sh_251 rfl km_251 dX12_clause_164 ?_
          refine V.aload_n 0 dX12_clause_167 rfl rfl ?_
          refine V.iload_n 3 dX12_clause_168 rfl rfl ?_
          refine V.putI fl_X12_201 rfl (tyX12_ok 14 (by decide)) rfl rfl sh_251 rfl km_251 dX12_clause_169 ?_
          cases hF
          exact V.vret dX12_clause_172
        · replace hF := iq c hF
          cases hF
          exact V.vret dX12_clause_161
def X12_clause_64 (n : Nat) (x1 : Int32) (h : Mm) : Option (Unit × Mm) := (bd (X12_condition n (X12_unit n 9) false (0 : Int32) h) (fun r81 h83 => (bd (X12_takes n (63 : Int32) h83) (fun r84 h86 => (if r84 = true then (bd (X12_sum n (X12_atom n 9) h86) (fun r87 h89 => (X12_clause_134 n x1 r81 r87 h89))) else (some ((), h86)))))))
set_option maxRecDepth 100000 in
set_option maxHeartbeats 4000000 in
theorem v_X12_clause_64 {X : WX} {G : GX} {o : Mm} {n : Nat} {rv : Unit} {hz : Mm} {x1 : Int32} {h : Mm} (hF : X12_clause_64 n x1 h = some (rv, hz)) : V X G RX12 cX12_clause 5 (none) 87 0 0 (QR X G false o none hz) false o 64 [(0, .ref (xa X 251)), (1, .int x1)] [] h := by
  unfold X12_clause_64 at hF
  refine V.aload_n 0 dX12_clause_64 rfl rfl ?_
  refine V.iconst (v := 0) dX12_clause_65 rfl ?_
  refine V.iconst (v := 0) dX12_clause_66 rfl ?_
  obtain ⟨r81, h83, hc82, hF⟩ := bd_s hF
  refine V.callVi mf_X12_condition ml_X12_184 sh_251 (s_X12_condition (dr := 84) (by decide) (s_X12_unit 9) hc82) (by decide) rfl rfl (Nat.le_of_ble_eq_true rfl) dX12_clause_67 ?_
  refine V.istore_n [(2, _), (0, _), (1, _)] dX12_clause_70 rfl (by decide) rfl ?_
  refine V.aload_n 1 dX12_clause_71 rfl rfl ?_
  refine V.bipush (v := 63) dX12_clause_72 (by decide) ?_
  obtain ⟨r84, h86, hc85, hF⟩ := bd_s hF
  refine V.callVi mf_X12_takes ml_X12_161 sh_251 (s_X12_takes hc85) (by decide) rfl rfl (Nat.le_of_ble_eq_true rfl) dX12_clause_74 ?_
  refine V.ifz_ne (tgt := 81) dX12_clause_77 rfl (fun c => ?_) (fun c => ?_)
  · replace hF := ip c hF
    refine V.aload_n 1 dX12_clause_81 rfl rfl ?_
    obtain ⟨r87, h89, hc88, hF⟩ := bd_s hF
    refine V.callVi mf_X12_sum ml_X12_158 sh_251 (s_X12_sum (dr := 43) (by decide) (s_X12_atom 9) hc88) (by decide) rfl rfl (Nat.le_of_ble_eq_true rfl) dX12_clause_82 ?_
    refine V.istore_n [(3, _), (2, _), (0, _), (1, _)] dX12_clause_85 rfl (by decide) rfl ?_
    refine V.goto (tgt := 134) dX12_clause_86 rfl ?_
    exact V.sub [2, 3, 1, 0] rfl (v_X12_clause_134 hF)
  · replace hF := iq c hF
    cases hF
    exact V.vret dX12_clause_80
def X12_clause (n : Nat) (h : Mm) : Option (Unit × Mm) := (bd (X12_look n h) (fun r90 h92 => (bp (X12_isAmong n 1031 r90 h92) (fun r93 => (if r93 = true then (bd (X12_takes n (58 : Int32) (wI h92 251 10 ((h92.1 251 10) + (1 : Int32)))) (fun r95 h97 => (if r95 = true then (bd (X12_look n h97) (fun r98 h100 => (if r98 = (33 : Int32) then (X12_clause_64 n r90 h100) else (if r98 = (40 : Int32) then (X12_clause_64 n r90 h100) else (bd (X12_sum n (X12_atom n 9) h100) (fun r101 h103 => (if (h103.1 251 11) = (-1 : Int32) then (bd (X12_look n h103) (fun r104 h106 => (bp (X12_isSign r104 h106) (fun r107 => (if r107 = true then (bd (X12_condition n (X12_unit n 9) true r101 h106) (fun r109 h111 => (bd (X12_takes n (63 : Int32) h111) (fun r112 h114 => (if r112 = true then (bd (X12_sum n (X12_atom n 9) h114) (fun r115 h117 => (X12_clause_134 n r90 r109 r115 h117))) else (some ((), h114))))))) else (X12_clause_134 n r90 true r101 h106)))))) else (X12_clause_134 n r90 true r101 h103)))))))) else (some ((), h97))))) else (bd (X12_fails h92) (fun r118 h120 => (some ((), h120)))))))))
set_option maxRecDepth 100000 in
set_option maxHeartbeats 4000000 in
theorem s_X12_clause {X : WX} {o : Mm} {n : Nat} {rv : Unit} {hz : Mm} {h : Mm} (hF : X12_clause n h = some (rv, hz)) : Sat X yX12_clause cX12_clause 5 (none) 87 [.ref (xa X 251)] false o h none hz := by
  unfold X12_clause at hF
  refine Sat.mk (own := RX12) rfl (by decide +kernel) (Nat.le_of_ble_eq_true rfl) (fun G => ?_)
  refine V.sub (lv2 := [(0, _)]) [0] rfl ?_
  refine V.aload_n 0 dX12_clause_0 rfl rfl ?_
  obtain ⟨r90, h92, hc91, hF⟩ := bd_s hF
  refine V.callVi mf_X12_look ml_X12_135 sh_251 (s_X12_look hc91) (by decide) rfl rfl (Nat.le_of_ble_eq_true rfl) dX12_clause_1 ?_
  refine V.istore_n [(1, _), (0, _)] dX12_clause_4 rfl (by decide) rfl ?_
  refine V.ldcS sc_1031 rfl rfl dX12_clause_5 ?_
  refine V.iload_n 0 dX12_clause_7 rfl rfl ?_
  obtain ⟨r93, hc94, hF⟩ := bp_s hF
  refine V.callSi mf_X12_isAmong ml_X12_151 (s_X12_isAmong ⟨by decide, by decide⟩ hc94) (by decide) rfl rfl (Nat.le_of_ble_eq_true rfl) dX12_clause_8 ?_
  refine V.ifz_ne (tgt := 20) dX12_clause_11 rfl (fun c => ?_) (fun c => ?_)
  · replace hF := ip c hF
    refine V.aload_n 1 dX12_clause_20 rfl rfl ?_
    refine V.dup dX12_clause_21 rfl ?_
    refine V.getI fl_X12_116 sh_251 rfl km_251 dX12_clause_22 ?_
    refine V.iconst (v := 1) dX12_clause_25 rfl ?_
    refine V.iadd dX12_clause_26 ?_
    refine V.putI fl_X12_116 rfl (tyX12_ok 10 (by decide)) rfl rfl sh_251 rfl km_251 dX12_clause_27 ?_
    refine V.aload_n 1 dX12_clause_30 rfl rfl ?_
    refine V.bipush (v := 58) dX12_clause_31 (by decide) ?_
    obtain ⟨r95, h97, hc96, hF⟩ := bd_s hF
    refine V.callVi mf_X12_takes ml_X12_161 sh_251 (s_X12_takes hc96) (by decide) rfl rfl (Nat.le_of_ble_eq_true rfl) dX12_clause_33 ?_
    refine V.ifz_ne (tgt := 40) dX12_clause_36 rfl (fun c => ?_) (fun c => ?_)
    · replace hF := ip c hF
      refine V.iconst (v := 1) dX12_clause_40 rfl ?_
      refine V.istore_n [(2, _), (1, _), (0, _)] dX12_clause_41 rfl (by decide) rfl ?_
      refine V.iconst (v := 0) dX12_clause_42 rfl ?_
      refine V.istore_n [(3, _), (2, _), (1, _), (0, _)] dX12_clause_43 rfl (by decide) rfl ?_
      refine V.aload_n 3 dX12_clause_44 rfl rfl ?_
      obtain ⟨r98, h100, hc99, hF⟩ := bd_s hF
      refine V.callVi mf_X12_look ml_X12_135 sh_251 (s_X12_look hc99) (by decide) rfl rfl (Nat.le_of_ble_eq_true rfl) dX12_clause_45 ?_
      refine V.istore [(4, _), (3, _), (2, _), (1, _), (0, _)] dX12_clause_48 (by decide) rfl ?_
      refine V.iload 0 dX12_clause_50 rfl ?_
      refine V.bipush (v := 33) dX12_clause_52 (by decide) ?_
      refine V.icmp_eq (tgt := 64) dX12_clause_54 rfl (fun c => ?_) (fun c => ?_)
      · replace hF := ip c hF
        exact V.sub [4, 3] rfl (v_X12_clause_64 hF)
      · replace hF := iq c hF
        refine V.iload 0 dX12_clause_57 rfl ?_
        refine V.bipush (v := 40) dX12_clause_59 (by decide) ?_
        refine V.icmp_ne (tgt := 89) dX12_clause_61 rfl (fun c => ?_) (fun c => ?_)
        · replace hF := iq c hF
          refine V.aload_n 4 dX12_clause_89 rfl rfl ?_
          obtain ⟨r101, h103, hc102, hF⟩ := bd_s hF
          refine V.callVi mf_X12_sum ml_X12_158 sh_251 (s_X12_sum (dr := 43) (by decide) (s_X12_atom 9) hc102) (by decide) rfl rfl (Nat.le_of_ble_eq_true rfl) dX12_clause_90 ?_
          refine V.istore_n [(3, _), (4, _), (2, _), (1, _), (0, _)] dX12_clause_93 rfl (by decide) rfl ?_
          refine V.aload_n 4 dX12_clause_94 rfl rfl ?_
          refine V.getI fl_X12_125 sh_251 rfl km_251 dX12_clause_95 ?_
          refine V.iconst (v := -1) dX12_clause_98 rfl ?_
          refine V.icmp_ne (tgt := 134) dX12_clause_99 rfl (fun c => ?_) (fun c => ?_)
          · replace hF := iq c hF
            exact V.sub [4, 3, 2, 0] rfl (v_X12_clause_134 hF)
          · replace hF := ip c hF
            refine V.aload_n 4 dX12_clause_102 rfl rfl ?_
            obtain ⟨r104, h106, hc105, hF⟩ := bd_s hF
            refine V.callVi mf_X12_look ml_X12_135 sh_251 (s_X12_look hc105) (by decide) rfl rfl (Nat.le_of_ble_eq_true rfl) dX12_clause_103 ?_
            obtain ⟨r107, hc108, hF⟩ := bp_s hF
            refine V.callSi mf_X12_isSign ml_X12_178 (s_X12_isSign hc108) (by decide) rfl rfl (Nat.le_of_ble_eq_true rfl) dX12_clause_106 ?_
            refine V.ifz_eq (tgt := 134) dX12_clause_109 rfl (fun c => ?_) (fun c => ?_)
            · replace hF := iq c hF
              exact V.sub [4, 3, 2, 0] rfl (v_X12_clause_134 hF)
            · replace hF := ip c hF
              refine V.aload_n 4 dX12_clause_112 rfl rfl ?_
              refine V.iconst (v := 1) dX12_clause_113 rfl ?_
              refine V.iload_n 0 dX12_clause_114 rfl rfl ?_
              obtain ⟨r109, h111, hc110, hF⟩ := bd_s hF
              refine V.callVi mf_X12_condition ml_X12_184 sh_251 (s_X12_condition (dr := 84) (by decide) (s_X12_unit 9) hc110) (by decide) rfl rfl (Nat.le_of_ble_eq_true rfl) dX12_clause_115 ?_
              refine V.istore_n [(2, _), (3, _), (4, _), (1, _), (0, _)] dX12_clause_118 rfl (by decide) rfl ?_
              refine V.aload_n 4 dX12_clause_119 rfl rfl ?_
              refine V.bipush (v := 63) dX12_clause_120 (by decide) ?_
              obtain ⟨r112, h114, hc113, hF⟩ := bd_s hF
              refine V.callVi mf_X12_takes ml_X12_161 sh_251 (s_X12_takes hc113) (by decide) rfl rfl (Nat.le_of_ble_eq_true rfl) dX12_clause_122 ?_
              refine V.ifz_ne (tgt := 129) dX12_clause_125 rfl (fun c => ?_) (fun c => ?_)
              · replace hF := ip c hF
                refine V.aload_n 4 dX12_clause_129 rfl rfl ?_
                obtain ⟨r115, h117, hc116, hF⟩ := bd_s hF
                refine V.callVi mf_X12_sum ml_X12_158 sh_251 (s_X12_sum (dr := 43) (by decide) (s_X12_atom 9) hc116) (by decide) rfl rfl (Nat.le_of_ble_eq_true rfl) dX12_clause_130 ?_
                refine V.istore_n [(3, _), (2, _), (4, _), (1, _), (0, _)] dX12_clause_133 rfl (by decide) rfl ?_
                exact V.sub [4, 3, 1, 0] rfl (v_X12_clause_134 hF)
              · replace hF := iq c hF
                cases hF
                exact V.vret dX12_clause_128
        · replace hF := ip c hF
          exact V.sub [4, 3] rfl (v_X12_clause_64 hF)
    · replace hF := iq c hF
      cases hF
      exact V.vret dX12_clause_39
  · replace hF := iq c hF
    refine V.aload_n 1 dX12_clause_14 rfl rfl ?_
    obtain ⟨r118, h120, hc119, hF⟩ := bd_s hF
    refine V.callVi mf_X12_fails ml_X12_131 sh_251 (s_X12_fails hc119) (by decide) rfl rfl (Nat.le_of_ble_eq_true rfl) dX12_clause_15 ?_
    refine V.pop dX12_clause_18 rfl ?_
    cases hF
    exact V.vret dX12_clause_19
/-! MonsterCotModel.starts -/
theorem dX12_starts_0 : decode cX12_starts 0 = .ok (.aload_n 0, 1) := by decide +kernel
theorem dX12_starts_1 : decode cX12_starts 1 = .ok (.aload_n 1, 1) := by decide +kernel
theorem dX12_starts_2 : decode cX12_starts 2 = .ok (.putfield 23, 3) := by decide +kernel
theorem dX12_starts_5 : decode cX12_starts 5 = .ok (.aload_n 0, 1) := by decide +kernel
theorem dX12_starts_6 : decode cX12_starts 6 = .ok (.iload_n 2, 1) := by decide +kernel
theorem dX12_starts_7 : decode cX12_starts 7 = .ok (.putfield 122, 3) := by decide +kernel
theorem dX12_starts_10 : decode cX12_starts 10 = .ok (.aload_n 0, 1) := by decide +kernel
theorem dX12_starts_11 : decode cX12_starts 11 = .ok (.iload_n 3, 1) := by decide +kernel
theorem dX12_starts_12 : decode cX12_starts 12 = .ok (.putfield 119, 3) := by decide +kernel
theorem dX12_starts_15 : decode cX12_starts 15 = .ok (.aload_n 0, 1) := by decide +kernel
theorem dX12_starts_16 : decode cX12_starts 16 = .ok (.iconst 0, 1) := by decide +kernel
theorem dX12_starts_17 : decode cX12_starts 17 = .ok (.putfield 116, 3) := by decide +kernel
theorem dX12_starts_20 : decode cX12_starts 20 = .ok (.aload_n 0, 1) := by decide +kernel
theorem dX12_starts_21 : decode cX12_starts 21 = .ok (.iconst (-1), 1) := by decide +kernel
theorem dX12_starts_22 : decode cX12_starts 22 = .ok (.putfield 125, 3) := by decide +kernel
theorem dX12_starts_25 : decode cX12_starts 25 = .ok (.return_, 1) := by decide +kernel
def X12_starts (a1 : Nat) (x2 : Int32) (x3 : Int32) (h : Mm) : Option (Unit × Mm) := (some ((), (wI (wI (wI (wI (wI h 251 5 (Int32.ofNat (a1 + 1))) 251 8 x2) 251 9 x3) 251 10 (0 : Int32)) 251 11 (-1 : Int32))))
set_option maxRecDepth 100000 in
set_option maxHeartbeats 4000000 in
theorem s_X12_starts {X : WX} {o : Mm} {a1 : Nat} {x2 : Int32} {x3 : Int32} {rv : Unit} {hz : Mm} {h : Mm} (ha1 : isO false 2 a1) (hF : X12_starts a1 x2 x3 h = some (rv, hz)) : Sat X yX12_starts cX12_starts 4 (none) 1 [.ref (xa X 251), .ref (xa X a1), .int x2, .int x3] false o h none hz := by
  unfold X12_starts at hF
  refine Sat.mk (own := RX12) rfl (by decide +kernel) (Nat.le_of_ble_eq_true rfl) (fun G => ?_)
  refine V.sub (lv2 := [(0, _), (1, _), (2, _), (3, _)]) [0, 1, 2, 3] rfl ?_
  refine V.aload_n 0 dX12_starts_0 rfl rfl ?_
  refine V.aload_n 1 dX12_starts_1 rfl rfl ?_
  refine V.putN fl_X12_23 rfl (tyX12_ok 5 (by decide)) rfl rfl sh_251 rfl km_251 ha1.lt2 dX12_starts_2 ?_
  refine V.aload_n 0 dX12_starts_5 rfl rfl ?_
  refine V.iload_n 2 dX12_starts_6 rfl rfl ?_
  refine V.putI fl_X12_122 rfl (tyX12_ok 8 (by decide)) rfl rfl sh_251 rfl km_251 dX12_starts_7 ?_
  refine V.aload_n 0 dX12_starts_10 rfl rfl ?_
  refine V.iload_n 3 dX12_starts_11 rfl rfl ?_
  refine V.putI fl_X12_119 rfl (tyX12_ok 9 (by decide)) rfl rfl sh_251 rfl km_251 dX12_starts_12 ?_
  refine V.aload_n 0 dX12_starts_15 rfl rfl ?_
  refine V.iconst (v := 0) dX12_starts_16 rfl ?_
  refine V.putI fl_X12_116 rfl (tyX12_ok 10 (by decide)) rfl rfl sh_251 rfl km_251 dX12_starts_17 ?_
  refine V.aload_n 0 dX12_starts_20 rfl rfl ?_
  refine V.iconst (v := -1) dX12_starts_21 rfl ?_
  refine V.putI fl_X12_125 rfl (tyX12_ok 11 (by decide)) rfl rfl sh_251 rfl km_251 dX12_starts_22 ?_
  cases hF
  exact V.vret dX12_starts_25
/-! MonsterCotModel.goThrough -/
theorem dX12_goThrough_0 : decode cX12_goThrough 0 = .ok (.aload_n 0, 1) := by decide +kernel
theorem dX12_goThrough_1 : decode cX12_goThrough 1 = .ok (.aload_n 1, 1) := by decide +kernel
theorem dX12_goThrough_2 : decode cX12_goThrough 2 = .ok (.iload_n 2, 1) := by decide +kernel
theorem dX12_goThrough_3 : decode cX12_goThrough 3 = .ok (.iload_n 3, 1) := by decide +kernel
theorem dX12_goThrough_4 : decode cX12_goThrough 4 = .ok (.invokevirtual 204, 3) := by decide +kernel
theorem dX12_goThrough_7 : decode cX12_goThrough 7 = .ok (.aload_n 0, 1) := by decide +kernel
theorem dX12_goThrough_8 : decode cX12_goThrough 8 = .ok (.bipush 121, 2) := by decide +kernel
theorem dX12_goThrough_10 : decode cX12_goThrough 10 = .ok (.putfield 198, 3) := by decide +kernel
theorem dX12_goThrough_13 : decode cX12_goThrough 13 = .ok (.aload_n 0, 1) := by decide +kernel
theorem dX12_goThrough_14 : decode cX12_goThrough 14 = .ok (.iconst 0, 1) := by decide +kernel
theorem dX12_goThrough_15 : decode cX12_goThrough 15 = .ok (.putfield 128, 3) := by decide +kernel
theorem dX12_goThrough_18 : decode cX12_goThrough 18 = .ok (.aload_n 0, 1) := by decide +kernel
theorem dX12_goThrough_19 : decode cX12_goThrough 19 = .ok (.iconst 0, 1) := by decide +kernel
theorem dX12_goThrough_20 : decode cX12_goThrough 20 = .ok (.putfield 194, 3) := by decide +kernel
theorem dX12_goThrough_23 : decode cX12_goThrough 23 = .ok (.aload_n 0, 1) := by decide +kernel
theorem dX12_goThrough_24 : decode cX12_goThrough 24 = .ok (.iconst 0, 1) := by decide +kernel
theorem dX12_goThrough_25 : decode cX12_goThrough 25 = .ok (.putfield 201, 3) := by decide +kernel
theorem dX12_goThrough_28 : decode cX12_goThrough 28 = .ok (.aload_n 0, 1) := by decide +kernel
theorem dX12_goThrough_29 : decode cX12_goThrough 29 = .ok (.invokevirtual 208, 3) := by decide +kernel
theorem dX12_goThrough_32 : decode cX12_goThrough 32 = .ok (.aload_n 0, 1) := by decide +kernel
theorem dX12_goThrough_33 : decode cX12_goThrough 33 = .ok (.getfield 125, 3) := by decide +kernel
theorem dX12_goThrough_36 : decode cX12_goThrough 36 = .ok (.iconst (-1), 1) := by decide +kernel
theorem dX12_goThrough_37 : decode cX12_goThrough 37 = .ok (.if_icmp .ne 29, 3) := by decide +kernel
theorem dX12_goThrough_40 : decode cX12_goThrough 40 = .ok (.aload_n 0, 1) := by decide +kernel
theorem dX12_goThrough_41 : decode cX12_goThrough 41 = .ok (.invokevirtual 135, 3) := by decide +kernel
theorem dX12_goThrough_44 : decode cX12_goThrough 44 = .ok (.bipush 59, 2) := by decide +kernel
theorem dX12_goThrough_46 : decode cX12_goThrough 46 = .ok (.if_icmp .ne 20, 3) := by decide +kernel
theorem dX12_goThrough_49 : decode cX12_goThrough 49 = .ok (.aload_n 0, 1) := by decide +kernel
theorem dX12_goThrough_50 : decode cX12_goThrough 50 = .ok (.dup, 1) := by decide +kernel
theorem dX12_goThrough_51 : decode cX12_goThrough 51 = .ok (.getfield 116, 3) := by decide +kernel
theorem dX12_goThrough_54 : decode cX12_goThrough 54 = .ok (.iconst 1, 1) := by decide +kernel
theorem dX12_goThrough_55 : decode cX12_goThrough 55 = .ok (.iadd, 1) := by decide +kernel
theorem dX12_goThrough_56 : decode cX12_goThrough 56 = .ok (.putfield 116, 3) := by decide +kernel
theorem dX12_goThrough_59 : decode cX12_goThrough 59 = .ok (.aload_n 0, 1) := by decide +kernel
theorem dX12_goThrough_60 : decode cX12_goThrough 60 = .ok (.invokevirtual 208, 3) := by decide +kernel
theorem dX12_goThrough_63 : decode cX12_goThrough 63 = .ok (.goto (-31), 3) := by decide +kernel
theorem dX12_goThrough_66 : decode cX12_goThrough 66 = .ok (.aload_n 0, 1) := by decide +kernel
theorem dX12_goThrough_67 : decode cX12_goThrough 67 = .ok (.getfield 125, 3) := by decide +kernel
theorem dX12_goThrough_70 : decode cX12_goThrough 70 = .ok (.iconst (-1), 1) := by decide +kernel
theorem dX12_goThrough_71 : decode cX12_goThrough 71 = .ok (.if_icmp .ne 16, 3) := by decide +kernel
theorem dX12_goThrough_74 : decode cX12_goThrough 74 = .ok (.aload_n 0, 1) := by decide +kernel
theorem dX12_goThrough_75 : decode cX12_goThrough 75 = .ok (.invokevirtual 135, 3) := by decide +kernel
theorem dX12_goThrough_78 : decode cX12_goThrough 78 = .ok (.iconst (-1), 1) := by decide +kernel
theorem dX12_goThrough_79 : decode cX12_goThrough 79 = .ok (.if_icmp .eq 8, 3) := by decide +kernel
theorem dX12_goThrough_82 : decode cX12_goThrough 82 = .ok (.aload_n 0, 1) := by decide +kernel
theorem dX12_goThrough_83 : decode cX12_goThrough 83 = .ok (.invokevirtual 131, 3) := by decide +kernel
theorem dX12_goThrough_86 : decode cX12_goThrough 86 = .ok (.pop, 1) := by decide +kernel
theorem dX12_goThrough_87 : decode cX12_goThrough 87 = .ok (.return_, 1) := by decide +kernel
def X12_goThrough_66 (n : Nat) (a1 : Nat) (h : Mm) : Option (Unit × Mm) := (if (h.1 251 11) = (-1 : Int32) then (bd (X12_look n h) (fun r31 h33 => (if r31 = (-1 : Int32) then (some ((), h33)) else (bd (X12_fails h33) (fun r34 h36 => (some ((), h36))))))) else (some ((), h)))
set_option maxRecDepth 100000 in
set_option maxHeartbeats 4000000 in
theorem v_X12_goThrough_66 {X : WX} {G : GX} {o : Mm} {n : Nat} {a1 : Nat} {rv : Unit} {hz : Mm} (ha1 : isO false 2 a1) {h : Mm} (hF : X12_goThrough_66 n a1 h = some (rv, hz)) : V X G RX12 cX12_goThrough 4 (none) 88 0 0 (QR X G false o none hz) false o 66 [(0, .ref (xa X 251))] [] h := by
  unfold X12_goThrough_66 at hF
  refine V.aload_n 0 dX12_goThrough_66 rfl rfl ?_
  refine V.getI fl_X12_125 sh_251 rfl km_251 dX12_goThrough_67 ?_
  refine V.iconst (v := -1) dX12_goThrough_70 rfl ?_
  refine V.icmp_ne (tgt := 87) dX12_goThrough_71 rfl (fun c => ?_) (fun c => ?_)
  · replace hF := iq c hF
    cases hF
    exact V.vret dX12_goThrough_87
  · replace hF := ip c hF
    refine V.aload_n 0 dX12_goThrough_74 rfl rfl ?_
    obtain ⟨r31, h33, hc32, hF⟩ := bd_s hF
    refine V.callVi mf_X12_look ml_X12_135 sh_251 (s_X12_look hc32) (by decide) rfl rfl (Nat.le_of_ble_eq_true rfl) dX12_goThrough_75 ?_
    refine V.iconst (v := -1) dX12_goThrough_78 rfl ?_
    refine V.icmp_eq (tgt := 87) dX12_goThrough_79 rfl (fun c => ?_) (fun c => ?_)
    · replace hF := ip c hF
      cases hF
      exact V.vret dX12_goThrough_87
    · replace hF := iq c hF
      refine V.aload_n 0 dX12_goThrough_82 rfl rfl ?_
      obtain ⟨r34, h36, hc35, hF⟩ := bd_s hF
      refine V.callVi mf_X12_fails ml_X12_131 sh_251 (s_X12_fails hc35) (by decide) rfl rfl (Nat.le_of_ble_eq_true rfl) dX12_goThrough_83 ?_
      refine V.pop dX12_goThrough_86 rfl ?_
      cases hF
      exact V.vret dX12_goThrough_87
def X12_goThrough_32 (n : Nat) (a1 : Nat) : Nat → Mm → Option (Unit × Mm)
  | 0, _ => none
  | f + 1, h => (if (h.1 251 11) = (-1 : Int32) then (bd (X12_look n h) (fun r37 h39 => (if r37 = (59 : Int32) then (bd (X12_clause n (wI h39 251 10 ((h39.1 251 10) + (1 : Int32)))) (fun _ h42 => ((X12_goThrough_32 n a1 f) h42))) else (X12_goThrough_66 n a1 h39)))) else (X12_goThrough_66 n a1 h))
set_option maxRecDepth 100000 in
set_option maxHeartbeats 4000000 in
theorem v_X12_goThrough_32 {X : WX} {G : GX} {o : Mm} {n : Nat} {a1 : Nat} {rv : Unit} {hz : Mm} (ha1 : isO false 2 a1) : ∀ (f : Nat) (h : Mm), X12_goThrough_32 n a1 f  h = some (rv, hz) → V X G RX12 cX12_goThrough 4 (none) 88 0 0 (QR X G false o none hz) false o 32 [(0, .ref (xa X 251))] [] h := by
  intro f
  induction f with
  | zero => intro  h hF; exact nomatch (show (none : Option (Unit × Mm)) = some (rv, hz) from hF)
  | succ f ih =>
    intro  h hF
    unfold X12_goThrough_32 at hF
    refine V.aload_n 0 dX12_goThrough_32 rfl rfl ?_
    refine V.getI fl_X12_125 sh_251 rfl km_251 dX12_goThrough_33 ?_
    refine V.iconst (v := -1) dX12_goThrough_36 rfl ?_
    refine V.icmp_ne (tgt := 66) dX12_goThrough_37 rfl (fun c => ?_) (fun c => ?_)
    · replace hF := iq c hF
      exact (v_X12_goThrough_66 ha1 hF)
    · replace hF := ip c hF
      refine V.aload_n 0 dX12_goThrough_40 rfl rfl ?_
      obtain ⟨r37, h39, hc38, hF⟩ := bd_s hF
      refine V.callVi mf_X12_look ml_X12_135 sh_251 (s_X12_look hc38) (by decide) rfl rfl (Nat.le_of_ble_eq_true rfl) dX12_goThrough_41 ?_
      refine V.bipush (v := 59) dX12_goThrough_44 (by decide) ?_
      refine V.icmp_ne (tgt := 66) dX12_goThrough_46 rfl (fun c => ?_) (fun c => ?_)
      · replace hF := iq c hF
        exact (v_X12_goThrough_66 ha1 hF)
      · replace hF := ip c hF
        refine V.aload_n 0 dX12_goThrough_49 rfl rfl ?_
        refine V.dup dX12_goThrough_50 rfl ?_
        refine V.getI fl_X12_116 sh_251 rfl km_251 dX12_goThrough_51 ?_
        refine V.iconst (v := 1) dX12_goThrough_54 rfl ?_
        refine V.iadd dX12_goThrough_55 ?_
        refine V.putI fl_X12_116 rfl (tyX12_ok 10 (by decide)) rfl rfl sh_251 rfl km_251 dX12_goThrough_56 ?_
        refine V.aload_n 0 dX12_goThrough_59 rfl rfl ?_
        obtain ⟨r40, h42, hc41, hF⟩ := bd_s hF
        refine V.callVv mf_X12_clause ml_X12_208 sh_251 (s_X12_clause hc41) (by decide) rfl rfl (Nat.le_of_ble_eq_true rfl) dX12_goThrough_60 ?_
        refine V.goto (tgt := 32) dX12_goThrough_63 rfl ?_
        exact ih _ hF
def X12_goThrough (n : Nat) (a1 : Nat) (x2 : Int32) (x3 : Int32) (h : Mm) : Option (Unit × Mm) := (bd (X12_starts a1 x2 x3 h) (fun _ h45 => (bd (X12_clause n (wI (wI (wI (wI h45 251 13 (121 : Int32)) 251 12 (0 : Int32)) 251 17 (0 : Int32)) 251 14 (0 : Int32))) (fun _ h48 => (X12_goThrough_32 n a1 n h48)))))
set_option maxRecDepth 100000 in
set_option maxHeartbeats 4000000 in
theorem s_X12_goThrough {X : WX} {o : Mm} {n : Nat} {a1 : Nat} {x2 : Int32} {x3 : Int32} {rv : Unit} {hz : Mm} {h : Mm} (ha1 : isO false 2 a1) (hF : X12_goThrough n a1 x2 x3 h = some (rv, hz)) : Sat X yX12_goThrough cX12_goThrough 4 (none) 88 [.ref (xa X 251), .ref (xa X a1), .int x2, .int x3] false o h none hz := by
  unfold X12_goThrough at hF
  refine Sat.mk (own := RX12) rfl (by decide +kernel) (Nat.le_of_ble_eq_true rfl) (fun G => ?_)
  refine V.sub (lv2 := [(0, _), (1, _), (2, _), (3, _)]) [0, 1, 2, 3] rfl ?_
  refine V.aload_n 0 dX12_goThrough_0 rfl rfl ?_
  refine V.aload_n 1 dX12_goThrough_1 rfl rfl ?_
  refine V.iload_n 2 dX12_goThrough_2 rfl rfl ?_
  refine V.iload_n 3 dX12_goThrough_3 rfl rfl ?_
  obtain ⟨r43, h45, hc44, hF⟩ := bd_s hF
  refine V.callVv mf_X12_starts ml_X12_204 sh_251 (s_X12_starts ha1 hc44) (by decide) rfl rfl (Nat.le_of_ble_eq_true rfl) dX12_goThrough_4 ?_
  refine V.aload_n 0 dX12_goThrough_7 rfl rfl ?_
  refine V.bipush (v := 121) dX12_goThrough_8 (by decide) ?_
  refine V.putI fl_X12_198 rfl (tyX12_ok 13 (by decide)) rfl rfl sh_251 rfl km_251 dX12_goThrough_10 ?_
  refine V.aload_n 0 dX12_goThrough_13 rfl rfl ?_
  refine V.iconst (v := 0) dX12_goThrough_14 rfl ?_
  refine V.putI fl_X12_128 rfl (tyX12_ok 12 (by decide)) rfl rfl sh_251 rfl km_251 dX12_goThrough_15 ?_
  refine V.aload_n 0 dX12_goThrough_18 rfl rfl ?_
  refine V.iconst (v := 0) dX12_goThrough_19 rfl ?_
  refine V.putI fl_X12_194 rfl (tyX12_ok 17 (by decide)) rfl rfl sh_251 rfl km_251 dX12_goThrough_20 ?_
  refine V.aload_n 0 dX12_goThrough_23 rfl rfl ?_
  refine V.iconst (v := 0) dX12_goThrough_24 rfl ?_
  refine V.putI fl_X12_201 rfl (tyX12_ok 14 (by decide)) rfl rfl sh_251 rfl km_251 dX12_goThrough_25 ?_
  refine V.aload_n 0 dX12_goThrough_28 rfl rfl ?_
  obtain ⟨r46, h48, hc47, hF⟩ := bd_s hF
  refine V.callVv mf_X12_clause ml_X12_208 sh_251 (s_X12_clause hc47) (by decide) rfl rfl (Nat.le_of_ble_eq_true rfl) dX12_goThrough_29 ?_
  exact V.sub [0] rfl (v_X12_goThrough_32 ha1 n _ hF)
/-! MonsterCotModel.here -/
theorem dX12_here_0 : decode cX12_here 0 = .ok (.aload_n 0, 1) := by decide +kernel
theorem dX12_here_1 : decode cX12_here 1 = .ok (.getfield 116, 3) := by decide +kernel
theorem dX12_here_4 : decode cX12_here 4 = .ok (.aload_n 0, 1) := by decide +kernel
theorem dX12_here_5 : decode cX12_here 5 = .ok (.getfield 119, 3) := by decide +kernel
theorem dX12_here_8 : decode cX12_here 8 = .ok (.if_icmp .ge 24, 3) := by decide +kernel
theorem dX12_here_11 : decode cX12_here 11 = .ok (.aload_n 0, 1) := by decide +kernel
theorem dX12_here_12 : decode cX12_here 12 = .ok (.getfield 23, 3) := by decide +kernel
theorem dX12_here_15 : decode cX12_here 15 = .ok (.aload_n 0, 1) := by decide +kernel
theorem dX12_here_16 : decode cX12_here 16 = .ok (.getfield 122, 3) := by decide +kernel
theorem dX12_here_19 : decode cX12_here 19 = .ok (.aload_n 0, 1) := by decide +kernel
theorem dX12_here_20 : decode cX12_here 20 = .ok (.getfield 116, 3) := by decide +kernel
theorem dX12_here_23 : decode cX12_here 23 = .ok (.iadd, 1) := by decide +kernel
theorem dX12_here_24 : decode cX12_here 24 = .ok (.baload, 1) := by decide +kernel
theorem dX12_here_25 : decode cX12_here 25 = .ok (.sipush 255, 3) := by decide +kernel
theorem dX12_here_28 : decode cX12_here 28 = .ok (.iand, 1) := by decide +kernel
theorem dX12_here_29 : decode cX12_here 29 = .ok (.goto 4, 3) := by decide +kernel
theorem dX12_here_32 : decode cX12_here 32 = .ok (.iconst (-1), 1) := by decide +kernel
theorem dX12_here_33 : decode cX12_here 33 = .ok (.ireturn, 1) := by decide +kernel
def X12_here (h : Mm) : Option Int32 := (if (h.1 251 9) ≤ (h.1 251 10) then (some (-1 : Int32)) else (bp (txt (h.1 251 5)) (fun t2 => (if inB ((h.1 251 8) + (h.1 251 10)) (aln t2) then (some ((h.1 t2 ((h.1 251 8) + (h.1 251 10)).toNatClampNeg) &&& (255 : Int32))) else none))))
set_option maxRecDepth 100000 in
set_option maxHeartbeats 4000000 in
theorem s_X12_here {X : WX} {o : Mm} {rv : Int32} {h : Mm} (hF : X12_here h = some rv) : Sat X yX12_here cX12_here 1 (some .int) 1 [.ref (xa X 251)] false o h (some (.int rv)) h := by
  unfold X12_here at hF
  refine Sat.mk (own := RX12) rfl (by decide +kernel) (Nat.le_of_ble_eq_true rfl) (fun G => ?_)
  refine V.sub (lv2 := [(0, _)]) [0] rfl ?_
  refine V.aload_n 0 dX12_here_0 rfl rfl ?_
  refine V.getI fl_X12_116 sh_251 rfl km_251 dX12_here_1 ?_
  refine V.aload_n 0 dX12_here_4 rfl rfl ?_
  refine V.getI fl_X12_119 sh_251 rfl km_251 dX12_here_5 ?_
  refine V.icmp_ge (tgt := 32) dX12_here_8 rfl (fun c => ?_) (fun c => ?_)
  · replace hF := ip c hF
    refine V.iconst (v := -1) dX12_here_32 rfl ?_
    cases hF
    exact V.iret dX12_here_33
  · replace hF := iq c hF
    refine V.aload_n 0 dX12_here_11 rfl rfl ?_
    obtain ⟨t2, htt2, hF⟩ := bp_s hF
    refine V.getN fl_X12_23 sh_251 rfl km_251 t2 (txt_s htt2).1 (txt_s htt2).2.lt2 dX12_here_12 ?_
    refine V.aload_n 0 dX12_here_15 rfl rfl ?_
    refine V.getI fl_X12_122 sh_251 rfl km_251 dX12_here_16 ?_
    refine V.aload_n 0 dX12_here_19 rfl rfl ?_
    refine V.getI fl_X12_116 sh_251 rfl km_251 dX12_here_20 ?_
    refine V.iadd dX12_here_23 ?_
    obtain ⟨hk, hF⟩ := ck hF
    refine V.bald (txt_s htt2).2 hk dX12_here_24 ?_
    refine V.sipush (v := 255) dX12_here_25 (by decide) ?_
    refine V.iand dX12_here_28 ?_
    refine V.goto (tgt := 33) dX12_here_29 rfl ?_
    cases hF
    exact V.iret dX12_here_33
/-! MonsterCotModel.spotOf -/
theorem dX12_spotOf_0 : decode cX12_spotOf 0 = .ok (.iconst 0, 1) := by decide +kernel
theorem dX12_spotOf_1 : decode cX12_spotOf 1 = .ok (.istore_n 2, 1) := by decide +kernel
theorem dX12_spotOf_2 : decode cX12_spotOf 2 = .ok (.iload_n 2, 1) := by decide +kernel
theorem dX12_spotOf_3 : decode cX12_spotOf 3 = .ok (.aload_n 0, 1) := by decide +kernel
theorem dX12_spotOf_4 : decode cX12_spotOf 4 = .ok (.invokevirtual 96, 3) := by decide +kernel
theorem dX12_spotOf_7 : decode cX12_spotOf 7 = .ok (.if_icmp .ge 20, 3) := by decide +kernel
theorem dX12_spotOf_10 : decode cX12_spotOf 10 = .ok (.aload_n 0, 1) := by decide +kernel
theorem dX12_spotOf_11 : decode cX12_spotOf 11 = .ok (.iload_n 2, 1) := by decide +kernel
theorem dX12_spotOf_12 : decode cX12_spotOf 12 = .ok (.invokevirtual 102, 3) := by decide +kernel
theorem dX12_spotOf_15 : decode cX12_spotOf 15 = .ok (.iload_n 1, 1) := by decide +kernel
theorem dX12_spotOf_16 : decode cX12_spotOf 16 = .ok (.if_icmp .ne 5, 3) := by decide +kernel
theorem dX12_spotOf_19 : decode cX12_spotOf 19 = .ok (.iload_n 2, 1) := by decide +kernel
theorem dX12_spotOf_20 : decode cX12_spotOf 20 = .ok (.ireturn, 1) := by decide +kernel
theorem dX12_spotOf_21 : decode cX12_spotOf 21 = .ok (.iinc 2 1, 3) := by decide +kernel
theorem dX12_spotOf_24 : decode cX12_spotOf 24 = .ok (.goto (-22), 3) := by decide +kernel
theorem dX12_spotOf_27 : decode cX12_spotOf 27 = .ok (.iconst (-1), 1) := by decide +kernel
theorem dX12_spotOf_28 : decode cX12_spotOf 28 = .ok (.ireturn, 1) := by decide +kernel
def X12_spotOf_2 (n : Nat) (a0 : Nat) : Nat → Int32 → Int32 → Mm → Option Int32
  | 0, _, _, _ => none
  | f + 1, x1, x2, h => (bp (J0_length_8abf5 a0 h) (fun r9 => (if r9 ≤ x2 then (some (-1 : Int32)) else (bp (J0_charAt_5068e a0 x2 h) (fun r11 => (if r11 = x1 then (some x2) else ((X12_spotOf_2 n a0 f) x1 (x2 + (1)) h)))))))
set_option maxRecDepth 100000 in
set_option maxHeartbeats 4000000 in
theorem v_X12_spotOf_2 {X : WX} {G : GX} {o : Mm} {n : Nat} {a0 : Nat} {rv : Int32} {h : Mm} (ha0 : isS a0) : ∀ (f : Nat) (x1 : Int32) (x2 : Int32), X12_spotOf_2 n a0 f x1 x2 h = some rv → V X G RX12 cX12_spotOf 3 (some .int) 5 0 0 (QR X G false o (some (.int rv)) h) false o 2 [(0, .ref (xa X a0)), (1, .int x1), (2, .int x2)] [] h := by
  intro f
  induction f with
  | zero => intro x1 x2 hF; exact nomatch (show (none : Option Int32) = some rv from hF)
  | succ f ih =>
    intro x1 x2 hF
    unfold X12_spotOf_2 at hF
    refine V.iload_n 2 dX12_spotOf_2 rfl rfl ?_
    refine V.aload_n 0 dX12_spotOf_3 rfl rfl ?_
    obtain ⟨r9, hc10, hF⟩ := bp_s hF
    refine V.callTi mf_J0_length_8abf5 ml_X12_96 ha0 (s_J0_length_8abf5 ha0 hc10) (by decide) rfl rfl (Nat.le_of_ble_eq_true rfl) dX12_spotOf_4 ?_
    refine V.icmp_ge (tgt := 27) dX12_spotOf_7 rfl (fun c => ?_) (fun c => ?_)
    · replace hF := ip c hF
      refine V.iconst (v := -1) dX12_spotOf_27 rfl ?_
      cases hF
      exact V.iret dX12_spotOf_28
    · replace hF := iq c hF
      refine V.aload_n 0 dX12_spotOf_10 rfl rfl ?_
      refine V.iload_n 2 dX12_spotOf_11 rfl rfl ?_
      obtain ⟨r11, hc12, hF⟩ := bp_s hF
      refine V.callTi mf_J0_charAt_5068e ml_X12_102 ha0 (s_J0_charAt_5068e ha0 hc12) (by decide) rfl rfl (Nat.le_of_ble_eq_true rfl) dX12_spotOf_12 ?_
      refine V.iload_n 1 dX12_spotOf_15 rfl rfl ?_
      refine V.icmp_ne (tgt := 21) dX12_spotOf_16 rfl (fun c => ?_) (fun c => ?_)
      · replace hF := iq c hF
        refine V.iinc (v := (x2 + (1))) 2 [(2, _), (0, _), (1, _)] dX12_spotOf_21 rfl rfl (by decide) rfl ?_
        refine V.goto (tgt := 2) dX12_spotOf_24 rfl ?_
        exact V.sub [1, 2, 0] rfl (ih _ _ hF)
      · replace hF := ip c hF
        refine V.iload_n 2 dX12_spotOf_19 rfl rfl ?_
        cases hF
        exact V.iret dX12_spotOf_20
def X12_spotOf (n : Nat) (a0 : Nat) (x1 : Int32) (h : Mm) : Option Int32 := (X12_spotOf_2 n a0 n x1 (0 : Int32) h)
set_option maxRecDepth 100000 in
set_option maxHeartbeats 4000000 in
theorem s_X12_spotOf {X : WX} {o : Mm} {n : Nat} {a0 : Nat} {x1 : Int32} {rv : Int32} {h : Mm} (ha0 : isS a0) (hF : X12_spotOf n a0 x1 h = some rv) : Sat X yX12_spotOf cX12_spotOf 3 (some .int) 5 [.ref (xa X a0), .int x1] false o h (some (.int rv)) h := by
  unfold X12_spotOf at hF
  refine Sat.mk (own := RX12) rfl (by decide +kernel) (Nat.le_of_ble_eq_true rfl) (fun G => ?_)
  refine V.sub (lv2 := [(0, _), (1, _)]) [0, 1] rfl ?_
  refine V.iconst (v := 0) dX12_spotOf_0 rfl ?_
  refine V.istore_n [(2, _), (0, _), (1, _)] dX12_spotOf_1 rfl (by decide) rfl ?_
  exact V.sub [1, 2, 0] rfl (v_X12_spotOf_2 ha0 n _ _ hF)
/-! MonsterCotModel.number -/
theorem dX12_number_0 : decode cX12_number 0 = .ok (.aload_n 0, 1) := by decide +kernel
theorem dX12_number_1 : decode cX12_number 1 = .ok (.invokevirtual 135, 3) := by decide +kernel
theorem dX12_number_4 : decode cX12_number 4 = .ok (.istore_n 3, 1) := by decide +kernel
theorem dX12_number_5 : decode cX12_number 5 = .ok (.aload_n 0, 1) := by decide +kernel
theorem dX12_number_6 : decode cX12_number 6 = .ok (.invokevirtual 165, 3) := by decide +kernel
theorem dX12_number_9 : decode cX12_number 9 = .ok (.ifCond .ne 10, 3) := by decide +kernel
theorem dX12_number_12 : decode cX12_number 12 = .ok (.aload_n 0, 1) := by decide +kernel
theorem dX12_number_13 : decode cX12_number 13 = .ok (.invokevirtual 131, 3) := by decide +kernel
theorem dX12_number_16 : decode cX12_number 16 = .ok (.pop, 1) := by decide +kernel
theorem dX12_number_17 : decode cX12_number 17 = .ok (.iconst 0, 1) := by decide +kernel
theorem dX12_number_18 : decode cX12_number 18 = .ok (.ireturn, 1) := by decide +kernel
theorem dX12_number_19 : decode cX12_number 19 = .ok (.iload_n 3, 1) := by decide +kernel
theorem dX12_number_20 : decode cX12_number 20 = .ok (.bipush 48, 2) := by decide +kernel
theorem dX12_number_22 : decode cX12_number 22 = .ok (.isub, 1) := by decide +kernel
theorem dX12_number_23 : decode cX12_number 23 = .ok (.istore 4, 2) := by decide +kernel
theorem dX12_number_25 : decode cX12_number 25 = .ok (.aload_n 0, 1) := by decide +kernel
theorem dX12_number_26 : decode cX12_number 26 = .ok (.dup, 1) := by decide +kernel
theorem dX12_number_27 : decode cX12_number 27 = .ok (.getfield 116, 3) := by decide +kernel
theorem dX12_number_30 : decode cX12_number 30 = .ok (.iconst 1, 1) := by decide +kernel
theorem dX12_number_31 : decode cX12_number 31 = .ok (.iadd, 1) := by decide +kernel
theorem dX12_number_32 : decode cX12_number 32 = .ok (.putfield 116, 3) := by decide +kernel
theorem dX12_number_35 : decode cX12_number 35 = .ok (.aload_n 0, 1) := by decide +kernel
theorem dX12_number_36 : decode cX12_number 36 = .ok (.invokevirtual 165, 3) := by decide +kernel
theorem dX12_number_39 : decode cX12_number 39 = .ok (.ifCond .eq 28, 3) := by decide +kernel
theorem dX12_number_42 : decode cX12_number 42 = .ok (.bipush 10, 2) := by decide +kernel
theorem dX12_number_44 : decode cX12_number 44 = .ok (.iload 4, 2) := by decide +kernel
theorem dX12_number_46 : decode cX12_number 46 = .ok (.imul, 1) := by decide +kernel
theorem dX12_number_47 : decode cX12_number 47 = .ok (.aload_n 0, 1) := by decide +kernel
theorem dX12_number_48 : decode cX12_number 48 = .ok (.invokevirtual 211, 3) := by decide +kernel
theorem dX12_number_51 : decode cX12_number 51 = .ok (.iadd, 1) := by decide +kernel
theorem dX12_number_52 : decode cX12_number 52 = .ok (.bipush 48, 2) := by decide +kernel
theorem dX12_number_54 : decode cX12_number 54 = .ok (.isub, 1) := by decide +kernel
theorem dX12_number_55 : decode cX12_number 55 = .ok (.istore 4, 2) := by decide +kernel
theorem dX12_number_57 : decode cX12_number 57 = .ok (.aload_n 0, 1) := by decide +kernel
theorem dX12_number_58 : decode cX12_number 58 = .ok (.dup, 1) := by decide +kernel
theorem dX12_number_59 : decode cX12_number 59 = .ok (.getfield 116, 3) := by decide +kernel
theorem dX12_number_62 : decode cX12_number 62 = .ok (.iconst 1, 1) := by decide +kernel
theorem dX12_number_63 : decode cX12_number 63 = .ok (.iadd, 1) := by decide +kernel
theorem dX12_number_64 : decode cX12_number 64 = .ok (.putfield 116, 3) := by decide +kernel
theorem dX12_number_67 : decode cX12_number 67 = .ok (.aload_n 0, 1) := by decide +kernel
theorem dX12_number_68 : decode cX12_number 68 = .ok (.invokevirtual 165, 3) := by decide +kernel
theorem dX12_number_71 : decode cX12_number 71 = .ok (.ifCond .eq 10, 3) := by decide +kernel
theorem dX12_number_74 : decode cX12_number 74 = .ok (.aload_n 0, 1) := by decide +kernel
theorem dX12_number_75 : decode cX12_number 75 = .ok (.invokevirtual 131, 3) := by decide +kernel
theorem dX12_number_78 : decode cX12_number 78 = .ok (.pop, 1) := by decide +kernel
theorem dX12_number_79 : decode cX12_number 79 = .ok (.iconst 0, 1) := by decide +kernel
theorem dX12_number_80 : decode cX12_number 80 = .ok (.ireturn, 1) := by decide +kernel
theorem dX12_number_81 : decode cX12_number 81 = .ok (.iload 4, 2) := by decide +kernel
theorem dX12_number_83 : decode cX12_number 83 = .ok (.i2l, 1) := by decide +kernel
theorem dX12_number_84 : decode cX12_number 84 = .ok (.iload_n 1, 1) := by decide +kernel
theorem dX12_number_85 : decode cX12_number 85 = .ok (.i2l, 1) := by decide +kernel
theorem dX12_number_86 : decode cX12_number 86 = .ok (.iload_n 2, 1) := by decide +kernel
theorem dX12_number_87 : decode cX12_number 87 = .ok (.i2l, 1) := by decide +kernel
theorem dX12_number_88 : decode cX12_number 88 = .ok (.invokestatic 214, 3) := by decide +kernel
theorem dX12_number_91 : decode cX12_number 91 = .ok (.ifCond .ne 18, 3) := by decide +kernel
theorem dX12_number_94 : decode cX12_number 94 = .ok (.aload_n 0, 1) := by decide +kernel
theorem dX12_number_95 : decode cX12_number 95 = .ok (.dup, 1) := by decide +kernel
theorem dX12_number_96 : decode cX12_number 96 = .ok (.getfield 116, 3) := by decide +kernel
theorem dX12_number_99 : decode cX12_number 99 = .ok (.iconst 1, 1) := by decide +kernel
theorem dX12_number_100 : decode cX12_number 100 = .ok (.isub, 1) := by decide +kernel
theorem dX12_number_101 : decode cX12_number 101 = .ok (.putfield 116, 3) := by decide +kernel
theorem dX12_number_104 : decode cX12_number 104 = .ok (.aload_n 0, 1) := by decide +kernel
theorem dX12_number_105 : decode cX12_number 105 = .ok (.invokevirtual 131, 3) := by decide +kernel
theorem dX12_number_108 : decode cX12_number 108 = .ok (.pop, 1) := by decide +kernel
theorem dX12_number_109 : decode cX12_number 109 = .ok (.iload 4, 2) := by decide +kernel
theorem dX12_number_111 : decode cX12_number 111 = .ok (.ireturn, 1) := by decide +kernel
def X12_number_109 (n : Nat) (x4 : Int32) (h : Mm) : Option (Int32 × Mm) := (some (x4, h))
set_option maxRecDepth 100000 in
set_option maxHeartbeats 4000000 in
theorem v_X12_number_109 {X : WX} {G : GX} {o : Mm} {n : Nat} {rv : Int32} {hz : Mm} {x4 : Int32} {h : Mm} (hF : X12_number_109 n x4 h = some (rv, hz)) : V X G RX12 cX12_number 5 (some .int) 2 0 0 (QR X G false o (some (.int rv)) hz) false o 109 [(4, .int x4)] [] h := by
  unfold X12_number_109 at hF
  refine V.iload 0 dX12_number_109 rfl ?_
  cases hF
  exact V.iret dX12_number_111
def X12_number_67 (n : Nat) (x1 : Int32) (x2 : Int32) (x4 : Int32) (h : Mm) : Option (Int32 × Mm) := (bp (X12_isDigit h) (fun r45 => (if r45 = true then (bd (X12_fails h) (fun r52 h54 => (some ((0 : Int32), h54)))) else (bp (X12_isIn x4.toInt64 x1.toInt64 x2.toInt64 h) (fun r47 => (if r47 = true then (X12_number_109 n x4 h) else (bd (X12_fails (wI h 251 10 ((h.1 251 10) - (1 : Int32)))) (fun r49 h51 => (X12_number_109 n x4 h51)))))))))
set_option maxRecDepth 100000 in
set_option maxHeartbeats 4000000 in
theorem v_X12_number_67 {X : WX} {G : GX} {o : Mm} {n : Nat} {rv : Int32} {hz : Mm} {x1 : Int32} {x2 : Int32} {x4 : Int32} {h : Mm} (hF : X12_number_67 n x1 x2 x4 h = some (rv, hz)) : V X G RX12 cX12_number 5 (some .int) 2 0 0 (QR X G false o (some (.int rv)) hz) false o 67 [(0, .ref (xa X 251)), (1, .int x1), (2, .int x2), (4, .int x4)] [] h := by
  unfold X12_number_67 at hF
  refine V.aload_n 0 dX12_number_67 rfl rfl ?_
  obtain ⟨r45, hc46, hF⟩ := bp_s hF
  refine V.callVi mf_X12_isDigit ml_X12_165 sh_251 (s_X12_isDigit hc46) (by decide) rfl rfl (Nat.le_of_ble_eq_true rfl) dX12_number_68 ?_
  refine V.ifz_eq (tgt := 81) dX12_number_71 rfl (fun c => ?_) (fun c => ?_)
  · replace hF := iq c hF
    refine V.iload 3 dX12_number_81 rfl ?_
    refine V.i2l dX12_number_83 ?_
    refine V.iload_n 1 dX12_number_84 rfl rfl ?_
    refine V.i2l dX12_number_85 ?_
    refine V.iload_n 2 dX12_number_86 rfl rfl ?_
    refine V.i2l dX12_number_87 ?_
    obtain ⟨r47, hc48, hF⟩ := bp_s hF
    refine V.callSi mf_X12_isIn ml_X12_214 (s_X12_isIn hc48) (by decide) rfl rfl (Nat.le_of_ble_eq_true rfl) dX12_number_88 ?_
    refine V.ifz_ne (tgt := 109) dX12_number_91 rfl (fun c => ?_) (fun c => ?_)
    · replace hF := ip c hF
      exact V.sub [3] rfl (v_X12_number_109 hF)
    · replace hF := iq c hF
      refine V.aload_n 0 dX12_number_94 rfl rfl ?_
      refine V.dup dX12_number_95 rfl ?_
      refine V.getI fl_X12_116 sh_251 rfl km_251 dX12_number_96 ?_
      refine V.iconst (v := 1) dX12_number_99 rfl ?_
      refine V.isub dX12_number_100 ?_
      refine V.putI fl_X12_116 rfl (tyX12_ok 10 (by decide)) rfl rfl sh_251 rfl km_251 dX12_number_101 ?_
      refine V.aload_n 0 dX12_number_104 rfl rfl ?_
      obtain ⟨r49, h51, hc50, hF⟩ := bd_s hF
      refine V.callVi mf_X12_fails ml_X12_131 sh_251 (s_X12_fails hc50) (by decide) rfl rfl (Nat.le_of_ble_eq_true rfl) dX12_number_105 ?_
      refine V.pop dX12_number_108 rfl ?_
      exact V.sub [3] rfl (v_X12_number_109 hF)
  · replace hF := ip c hF
    refine V.aload_n 0 dX12_number_74 rfl rfl ?_
    obtain ⟨r52, h54, hc53, hF⟩ := bd_s hF
    refine V.callVi mf_X12_fails ml_X12_131 sh_251 (s_X12_fails hc53) (by decide) rfl rfl (Nat.le_of_ble_eq_true rfl) dX12_number_75 ?_
    refine V.pop dX12_number_78 rfl ?_
    refine V.iconst (v := 0) dX12_number_79 rfl ?_
    cases hF
    exact V.iret dX12_number_80
def X12_number (n : Nat) (x1 : Int32) (x2 : Int32) (h : Mm) : Option (Int32 × Mm) := (bd (X12_look n h) (fun r55 h57 => (bp (X12_isDigit h57) (fun r58 => (if r58 = true then (bp (X12_isDigit (wI h57 251 10 ((h57.1 251 10) + (1 : Int32)))) (fun r60 => (if r60 = true then (bp (X12_here (wI h57 251 10 ((h57.1 251 10) + (1 : Int32)))) (fun r62 => (X12_number_67 n x1 x2 ((((10 : Int32) * (r55 - (48 : Int32))) + r62) - (48 : Int32)) (wI (wI h57 251 10 ((h57.1 251 10) + (1 : Int32))) 251 10 (((wI h57 251 10 ((h57.1 251 10) + (1 : Int32))).1 251 10) + (1 : Int32)))))) else (X12_number_67 n x1 x2 (r55 - (48 : Int32)) (wI h57 251 10 ((h57.1 251 10) + (1 : Int32))))))) else (bd (X12_fails h57) (fun r64 h66 => (some ((0 : Int32), h66)))))))))
set_option maxRecDepth 100000 in
set_option maxHeartbeats 4000000 in
theorem s_X12_number {X : WX} {o : Mm} {n : Nat} {x1 : Int32} {x2 : Int32} {rv : Int32} {hz : Mm} {h : Mm} (hF : X12_number n x1 x2 h = some (rv, hz)) : Sat X yX12_number cX12_number 5 (some .int) 2 [.ref (xa X 251), .int x1, .int x2] false o h (some (.int rv)) hz := by
  unfold X12_number at hF
  refine Sat.mk (own := RX12) rfl (by decide +kernel) (Nat.le_of_ble_eq_true rfl) (fun G => ?_)
  refine V.sub (lv2 := [(0, _), (1, _), (2, _)]) [0, 1, 2] rfl ?_
  refine V.aload_n 0 dX12_number_0 rfl rfl ?_
  obtain ⟨r55, h57, hc56, hF⟩ := bd_s hF
  refine V.callVi mf_X12_look ml_X12_135 sh_251 (s_X12_look hc56) (by decide) rfl rfl (Nat.le_of_ble_eq_true rfl) dX12_number_1 ?_
  refine V.istore_n [(3, _), (0, _), (1, _), (2, _)] dX12_number_4 rfl (by decide) rfl ?_
  refine V.aload_n 1 dX12_number_5 rfl rfl ?_
  obtain ⟨r58, hc59, hF⟩ := bp_s hF
  refine V.callVi mf_X12_isDigit ml_X12_165 sh_251 (s_X12_isDigit hc59) (by decide) rfl rfl (Nat.le_of_ble_eq_true rfl) dX12_number_6 ?_
  refine V.ifz_ne (tgt := 19) dX12_number_9 rfl (fun c => ?_) (fun c => ?_)
  · replace hF := ip c hF
    refine V.iload_n 0 dX12_number_19 rfl rfl ?_
    refine V.bipush (v := 48) dX12_number_20 (by decide) ?_
    refine V.isub dX12_number_22 ?_
    refine V.istore [(4, _), (3, _), (0, _), (1, _), (2, _)] dX12_number_23 (by decide) rfl ?_
    refine V.aload_n 2 dX12_number_25 rfl rfl ?_
    refine V.dup dX12_number_26 rfl ?_
    refine V.getI fl_X12_116 sh_251 rfl km_251 dX12_number_27 ?_
    refine V.iconst (v := 1) dX12_number_30 rfl ?_
    refine V.iadd dX12_number_31 ?_
    refine V.putI fl_X12_116 rfl (tyX12_ok 10 (by decide)) rfl rfl sh_251 rfl km_251 dX12_number_32 ?_
    refine V.aload_n 2 dX12_number_35 rfl rfl ?_
    obtain ⟨r60, hc61, hF⟩ := bp_s hF
    refine V.callVi mf_X12_isDigit ml_X12_165 sh_251 (s_X12_isDigit hc61) (by decide) rfl rfl (Nat.le_of_ble_eq_true rfl) dX12_number_36 ?_
    refine V.ifz_eq (tgt := 67) dX12_number_39 rfl (fun c => ?_) (fun c => ?_)
    · replace hF := iq c hF
      exact V.sub [2, 3, 4, 0] rfl (v_X12_number_67 hF)
    · replace hF := ip c hF
      refine V.bipush (v := 10) dX12_number_42 (by decide) ?_
      refine V.iload 0 dX12_number_44 rfl ?_
      refine V.imul dX12_number_46 ?_
      refine V.aload_n 2 dX12_number_47 rfl rfl ?_
      obtain ⟨r62, hc63, hF⟩ := bp_s hF
      refine V.callVi mf_X12_here ml_X12_211 sh_251 (s_X12_here hc63) (by decide) rfl rfl (Nat.le_of_ble_eq_true rfl) dX12_number_48 ?_
      refine V.iadd dX12_number_51 ?_
      refine V.bipush (v := 48) dX12_number_52 (by decide) ?_
      refine V.isub dX12_number_54 ?_
      refine V.istore [(4, _), (3, _), (0, _), (1, _), (2, _)] dX12_number_55 (by decide) rfl ?_
      refine V.aload_n 2 dX12_number_57 rfl rfl ?_
      refine V.dup dX12_number_58 rfl ?_
      refine V.getI fl_X12_116 sh_251 rfl km_251 dX12_number_59 ?_
      refine V.iconst (v := 1) dX12_number_62 rfl ?_
      refine V.iadd dX12_number_63 ?_
      refine V.putI fl_X12_116 rfl (tyX12_ok 10 (by decide)) rfl rfl sh_251 rfl km_251 dX12_number_64 ?_
      exact V.sub [2, 3, 4, 0] rfl (v_X12_number_67 hF)
  · replace hF := iq c hF
    refine V.aload_n 1 dX12_number_12 rfl rfl ?_
    obtain ⟨r64, h66, hc65, hF⟩ := bd_s hF
    refine V.callVi mf_X12_fails ml_X12_131 sh_251 (s_X12_fails hc65) (by decide) rfl rfl (Nat.le_of_ble_eq_true rfl) dX12_number_13 ?_
    refine V.pop dX12_number_16 rfl ?_
    refine V.iconst (v := 0) dX12_number_17 rfl ?_
    cases hF
    exact V.iret dX12_number_18
/-! MonsterCotModel.mostOf -/
theorem dX12_mostOf_0 : decode cX12_mostOf 0 = .ok (.iload_n 0, 1) := by decide +kernel
theorem dX12_mostOf_1 : decode cX12_mostOf 1 = .ok (.bipush 115, 2) := by decide +kernel
theorem dX12_mostOf_3 : decode cX12_mostOf 3 = .ok (.if_icmp .ne 16, 3) := by decide +kernel
theorem dX12_mostOf_6 : decode cX12_mostOf 6 = .ok (.iload_n 1, 1) := by decide +kernel
theorem dX12_mostOf_7 : decode cX12_mostOf 7 = .ok (.iconst 2, 1) := by decide +kernel
theorem dX12_mostOf_8 : decode cX12_mostOf 8 = .ok (.if_icmp .ne 8, 3) := by decide +kernel
theorem dX12_mostOf_11 : decode cX12_mostOf 11 = .ok (.bipush 30, 2) := by decide +kernel
theorem dX12_mostOf_13 : decode cX12_mostOf 13 = .ok (.goto 5, 3) := by decide +kernel
theorem dX12_mostOf_16 : decode cX12_mostOf 16 = .ok (.bipush 99, 2) := by decide +kernel
theorem dX12_mostOf_18 : decode cX12_mostOf 18 = .ok (.ireturn, 1) := by decide +kernel
theorem dX12_mostOf_19 : decode cX12_mostOf 19 = .ok (.iload_n 0, 1) := by decide +kernel
theorem dX12_mostOf_20 : decode cX12_mostOf 20 = .ok (.bipush 98, 2) := by decide +kernel
theorem dX12_mostOf_22 : decode cX12_mostOf 22 = .ok (.if_icmp .ne 15, 3) := by decide +kernel
theorem dX12_mostOf_25 : decode cX12_mostOf 25 = .ok (.iload_n 1, 1) := by decide +kernel
theorem dX12_mostOf_26 : decode cX12_mostOf 26 = .ok (.iconst 2, 1) := by decide +kernel
theorem dX12_mostOf_27 : decode cX12_mostOf 27 = .ok (.if_icmp .ne 7, 3) := by decide +kernel
theorem dX12_mostOf_30 : decode cX12_mostOf 30 = .ok (.iconst 3, 1) := by decide +kernel
theorem dX12_mostOf_31 : decode cX12_mostOf 31 = .ok (.goto 5, 3) := by decide +kernel
theorem dX12_mostOf_34 : decode cX12_mostOf 34 = .ok (.bipush 9, 2) := by decide +kernel
theorem dX12_mostOf_36 : decode cX12_mostOf 36 = .ok (.ireturn, 1) := by decide +kernel
theorem dX12_mostOf_37 : decode cX12_mostOf 37 = .ok (.iload_n 1, 1) := by decide +kernel
theorem dX12_mostOf_38 : decode cX12_mostOf 38 = .ok (.iconst 1, 1) := by decide +kernel
theorem dX12_mostOf_39 : decode cX12_mostOf 39 = .ok (.if_icmp .ne 8, 3) := by decide +kernel
theorem dX12_mostOf_42 : decode cX12_mostOf 42 = .ok (.bipush 40, 2) := by decide +kernel
theorem dX12_mostOf_44 : decode cX12_mostOf 44 = .ok (.goto 5, 3) := by decide +kernel
theorem dX12_mostOf_47 : decode cX12_mostOf 47 = .ok (.bipush 9, 2) := by decide +kernel
theorem dX12_mostOf_49 : decode cX12_mostOf 49 = .ok (.ireturn, 1) := by decide +kernel
def X12_mostOf (x0 : Int32) (x1 : Int32) (h : Mm) : Option Int32 := (if x0 = (115 : Int32) then (if x1 = (2 : Int32) then (some (30 : Int32)) else (some (99 : Int32))) else (if x0 = (98 : Int32) then (if x1 = (2 : Int32) then (some (3 : Int32)) else (some (9 : Int32))) else (if x1 = (1 : Int32) then (some (40 : Int32)) else (some (9 : Int32)))))
set_option maxRecDepth 100000 in
set_option maxHeartbeats 4000000 in
theorem s_X12_mostOf {X : WX} {o : Mm} {x0 : Int32} {x1 : Int32} {rv : Int32} {h : Mm} (hF : X12_mostOf x0 x1 h = some rv) : Sat X yX12_mostOf cX12_mostOf 2 (some .int) 1 [.int x0, .int x1] false o h (some (.int rv)) h := by
  unfold X12_mostOf at hF
  refine Sat.mk (own := RX12) rfl (by decide +kernel) (Nat.le_of_ble_eq_true rfl) (fun G => ?_)
  refine V.sub (lv2 := [(0, _), (1, _)]) [0, 1] rfl ?_
  refine V.iload_n 0 dX12_mostOf_0 rfl rfl ?_
  refine V.bipush (v := 115) dX12_mostOf_1 (by decide) ?_
  refine V.icmp_ne (tgt := 19) dX12_mostOf_3 rfl (fun c => ?_) (fun c => ?_)
  · replace hF := iq c hF
    refine V.iload_n 0 dX12_mostOf_19 rfl rfl ?_
    refine V.bipush (v := 98) dX12_mostOf_20 (by decide) ?_
    refine V.icmp_ne (tgt := 37) dX12_mostOf_22 rfl (fun c => ?_) (fun c => ?_)
    · replace hF := iq c hF
      refine V.iload_n 1 dX12_mostOf_37 rfl rfl ?_
      refine V.iconst (v := 1) dX12_mostOf_38 rfl ?_
      refine V.icmp_ne (tgt := 47) dX12_mostOf_39 rfl (fun c => ?_) (fun c => ?_)
      · replace hF := iq c hF
        refine V.bipush (v := 9) dX12_mostOf_47 (by decide) ?_
        cases hF
        exact V.iret dX12_mostOf_49
      · replace hF := ip c hF
        refine V.bipush (v := 40) dX12_mostOf_42 (by decide) ?_
        refine V.goto (tgt := 49) dX12_mostOf_44 rfl ?_
        cases hF
        exact V.iret dX12_mostOf_49
    · replace hF := ip c hF
      refine V.iload_n 1 dX12_mostOf_25 rfl rfl ?_
      refine V.iconst (v := 2) dX12_mostOf_26 rfl ?_
      refine V.icmp_ne (tgt := 34) dX12_mostOf_27 rfl (fun c => ?_) (fun c => ?_)
      · replace hF := iq c hF
        refine V.bipush (v := 9) dX12_mostOf_34 (by decide) ?_
        cases hF
        exact V.iret dX12_mostOf_36
      · replace hF := ip c hF
        refine V.iconst (v := 3) dX12_mostOf_30 rfl ?_
        refine V.goto (tgt := 36) dX12_mostOf_31 rfl ?_
        cases hF
        exact V.iret dX12_mostOf_36
  · replace hF := ip c hF
    refine V.iload_n 1 dX12_mostOf_6 rfl rfl ?_
    refine V.iconst (v := 2) dX12_mostOf_7 rfl ?_
    refine V.icmp_ne (tgt := 16) dX12_mostOf_8 rfl (fun c => ?_) (fun c => ?_)
    · replace hF := iq c hF
      refine V.bipush (v := 99) dX12_mostOf_16 (by decide) ?_
      cases hF
      exact V.iret dX12_mostOf_18
    · replace hF := ip c hF
      refine V.bipush (v := 30) dX12_mostOf_11 (by decide) ?_
      refine V.goto (tgt := 18) dX12_mostOf_13 rfl ?_
      cases hF
      exact V.iret dX12_mostOf_18
/-! MonsterCotModel.leastOf -/
theorem dX12_leastOf_0 : decode cX12_leastOf 0 = .ok (.iload_n 0, 1) := by decide +kernel
theorem dX12_leastOf_1 : decode cX12_leastOf 1 = .ok (.bipush 98, 2) := by decide +kernel
theorem dX12_leastOf_3 : decode cX12_leastOf 3 = .ok (.if_icmp .ne 15, 3) := by decide +kernel
theorem dX12_leastOf_6 : decode cX12_leastOf 6 = .ok (.iload_n 1, 1) := by decide +kernel
theorem dX12_leastOf_7 : decode cX12_leastOf 7 = .ok (.ifCond .ne 7, 3) := by decide +kernel
theorem dX12_leastOf_10 : decode cX12_leastOf 10 = .ok (.iconst 1, 1) := by decide +kernel
theorem dX12_leastOf_11 : decode cX12_leastOf 11 = .ok (.goto 17, 3) := by decide +kernel
theorem dX12_leastOf_14 : decode cX12_leastOf 14 = .ok (.iconst 0, 1) := by decide +kernel
theorem dX12_leastOf_15 : decode cX12_leastOf 15 = .ok (.goto 13, 3) := by decide +kernel
theorem dX12_leastOf_18 : decode cX12_leastOf 18 = .ok (.iload_n 1, 1) := by decide +kernel
theorem dX12_leastOf_19 : decode cX12_leastOf 19 = .ok (.iconst 1, 1) := by decide +kernel
theorem dX12_leastOf_20 : decode cX12_leastOf 20 = .ok (.if_icmp .ne 7, 3) := by decide +kernel
theorem dX12_leastOf_23 : decode cX12_leastOf 23 = .ok (.iconst 1, 1) := by decide +kernel
theorem dX12_leastOf_24 : decode cX12_leastOf 24 = .ok (.goto 4, 3) := by decide +kernel
theorem dX12_leastOf_27 : decode cX12_leastOf 27 = .ok (.iconst 0, 1) := by decide +kernel
theorem dX12_leastOf_28 : decode cX12_leastOf 28 = .ok (.ireturn, 1) := by decide +kernel
def X12_leastOf (x0 : Int32) (x1 : Int32) (h : Mm) : Option Int32 := (if x0 = (98 : Int32) then (if x1 = 0 then (some (1 : Int32)) else (some (0 : Int32))) else (if x1 = (1 : Int32) then (some (1 : Int32)) else (some (0 : Int32))))
set_option maxRecDepth 100000 in
set_option maxHeartbeats 4000000 in
theorem s_X12_leastOf {X : WX} {o : Mm} {x0 : Int32} {x1 : Int32} {rv : Int32} {h : Mm} (hF : X12_leastOf x0 x1 h = some rv) : Sat X yX12_leastOf cX12_leastOf 2 (some .int) 1 [.int x0, .int x1] false o h (some (.int rv)) h := by
  unfold X12_leastOf at hF
  refine Sat.mk (own := RX12) rfl (by decide +kernel) (Nat.le_of_ble_eq_true rfl) (fun G => ?_)
  refine V.sub (lv2 := [(0, _), (1, _)]) [0, 1] rfl ?_
  refine V.iload_n 0 dX12_leastOf_0 rfl rfl ?_
  refine V.bipush (v := 98) dX12_leastOf_1 (by decide) ?_
  refine V.icmp_ne (tgt := 18) dX12_leastOf_3 rfl (fun c => ?_) (fun c => ?_)
  · replace hF := iq c hF
    refine V.iload_n 1 dX12_leastOf_18 rfl rfl ?_
    refine V.iconst (v := 1) dX12_leastOf_19 rfl ?_
    refine V.icmp_ne (tgt := 27) dX12_leastOf_20 rfl (fun c => ?_) (fun c => ?_)
    · replace hF := iq c hF
      refine V.iconst (v := 0) dX12_leastOf_27 rfl ?_
      cases hF
      exact V.iret dX12_leastOf_28
    · replace hF := ip c hF
      refine V.iconst (v := 1) dX12_leastOf_23 rfl ?_
      refine V.goto (tgt := 28) dX12_leastOf_24 rfl ?_
      cases hF
      exact V.iret dX12_leastOf_28
  · replace hF := ip c hF
    refine V.iload_n 1 dX12_leastOf_6 rfl rfl ?_
    refine V.if_ne (tgt := 14) dX12_leastOf_7 rfl (fun c => ?_) (fun c => ?_)
    · replace hF := iq c hF
      refine V.iconst (v := 0) dX12_leastOf_14 rfl ?_
      refine V.goto (tgt := 28) dX12_leastOf_15 rfl ?_
      cases hF
      exact V.iret dX12_leastOf_28
    · replace hF := ip c hF
      refine V.iconst (v := 1) dX12_leastOf_10 rfl ?_
      refine V.goto (tgt := 28) dX12_leastOf_11 rfl ?_
      cases hF
      exact V.iret dX12_leastOf_28
/-! MonsterCotModel.usual -/
theorem dX12_usual_0 : decode cX12_usual 0 = .ok (.iload_n 0, 1) := by decide +kernel
theorem dX12_usual_1 : decode cX12_usual 1 = .ok (.bipush 115, 2) := by decide +kernel
theorem dX12_usual_3 : decode cX12_usual 3 = .ok (.if_icmp .ne 25, 3) := by decide +kernel
theorem dX12_usual_6 : decode cX12_usual 6 = .ok (.iload_n 1, 1) := by decide +kernel
theorem dX12_usual_7 : decode cX12_usual 7 = .ok (.ifCond .ne 8, 3) := by decide +kernel
theorem dX12_usual_10 : decode cX12_usual 10 = .ok (.bipush 10, 2) := by decide +kernel
theorem dX12_usual_12 : decode cX12_usual 12 = .ok (.goto 15, 3) := by decide +kernel
theorem dX12_usual_15 : decode cX12_usual 15 = .ok (.iload_n 1, 1) := by decide +kernel
theorem dX12_usual_16 : decode cX12_usual 16 = .ok (.iconst 1, 1) := by decide +kernel
theorem dX12_usual_17 : decode cX12_usual 17 = .ok (.if_icmp .ne 8, 3) := by decide +kernel
theorem dX12_usual_20 : decode cX12_usual 20 = .ok (.bipush 25, 2) := by decide +kernel
theorem dX12_usual_22 : decode cX12_usual 22 = .ok (.goto 5, 3) := by decide +kernel
theorem dX12_usual_25 : decode cX12_usual 25 = .ok (.bipush 8, 2) := by decide +kernel
theorem dX12_usual_27 : decode cX12_usual 27 = .ok (.ireturn, 1) := by decide +kernel
theorem dX12_usual_28 : decode cX12_usual 28 = .ok (.iload_n 0, 1) := by decide +kernel
theorem dX12_usual_29 : decode cX12_usual 29 = .ok (.bipush 98, 2) := by decide +kernel
theorem dX12_usual_31 : decode cX12_usual 31 = .ok (.if_icmp .ne 22, 3) := by decide +kernel
theorem dX12_usual_34 : decode cX12_usual 34 = .ok (.iload_n 1, 1) := by decide +kernel
theorem dX12_usual_35 : decode cX12_usual 35 = .ok (.ifCond .ne 7, 3) := by decide +kernel
theorem dX12_usual_38 : decode cX12_usual 38 = .ok (.iconst 4, 1) := by decide +kernel
theorem dX12_usual_39 : decode cX12_usual 39 = .ok (.goto 13, 3) := by decide +kernel
theorem dX12_usual_42 : decode cX12_usual 42 = .ok (.iload_n 1, 1) := by decide +kernel
theorem dX12_usual_43 : decode cX12_usual 43 = .ok (.iconst 1, 1) := by decide +kernel
theorem dX12_usual_44 : decode cX12_usual 44 = .ok (.if_icmp .ne 7, 3) := by decide +kernel
theorem dX12_usual_47 : decode cX12_usual 47 = .ok (.iconst 3, 1) := by decide +kernel
theorem dX12_usual_48 : decode cX12_usual 48 = .ok (.goto 4, 3) := by decide +kernel
theorem dX12_usual_51 : decode cX12_usual 51 = .ok (.iconst 0, 1) := by decide +kernel
theorem dX12_usual_52 : decode cX12_usual 52 = .ok (.ireturn, 1) := by decide +kernel
theorem dX12_usual_53 : decode cX12_usual 53 = .ok (.iload_n 1, 1) := by decide +kernel
theorem dX12_usual_54 : decode cX12_usual 54 = .ok (.ifCond .ne 7, 3) := by decide +kernel
theorem dX12_usual_57 : decode cX12_usual 57 = .ok (.iconst 2, 1) := by decide +kernel
theorem dX12_usual_58 : decode cX12_usual 58 = .ok (.goto 14, 3) := by decide +kernel
theorem dX12_usual_61 : decode cX12_usual 61 = .ok (.iload_n 1, 1) := by decide +kernel
theorem dX12_usual_62 : decode cX12_usual 62 = .ok (.iconst 1, 1) := by decide +kernel
theorem dX12_usual_63 : decode cX12_usual 63 = .ok (.if_icmp .ne 8, 3) := by decide +kernel
theorem dX12_usual_66 : decode cX12_usual 66 = .ok (.bipush 15, 2) := by decide +kernel
theorem dX12_usual_68 : decode cX12_usual 68 = .ok (.goto 4, 3) := by decide +kernel
theorem dX12_usual_71 : decode cX12_usual 71 = .ok (.iconst 5, 1) := by decide +kernel
theorem dX12_usual_72 : decode cX12_usual 72 = .ok (.ireturn, 1) := by decide +kernel
def X12_usual (x0 : Int32) (x1 : Int32) (h : Mm) : Option Int32 := (if x0 = (115 : Int32) then (if x1 = 0 then (some (10 : Int32)) else (if x1 = (1 : Int32) then (some (25 : Int32)) else (some (8 : Int32)))) else (if x0 = (98 : Int32) then (if x1 = 0 then (some (4 : Int32)) else (if x1 = (1 : Int32) then (some (3 : Int32)) else (some (0 : Int32)))) else (if x1 = 0 then (some (2 : Int32)) else (if x1 = (1 : Int32) then (some (15 : Int32)) else (some (5 : Int32))))))
set_option maxRecDepth 100000 in
set_option maxHeartbeats 4000000 in
theorem s_X12_usual {X : WX} {o : Mm} {x0 : Int32} {x1 : Int32} {rv : Int32} {h : Mm} (hF : X12_usual x0 x1 h = some rv) : Sat X yX12_usual cX12_usual 2 (some .int) 1 [.int x0, .int x1] false o h (some (.int rv)) h := by
  unfold X12_usual at hF
  refine Sat.mk (own := RX12) rfl (by decide +kernel) (Nat.le_of_ble_eq_true rfl) (fun G => ?_)
  refine V.sub (lv2 := [(0, _), (1, _)]) [0, 1] rfl ?_
  refine V.iload_n 0 dX12_usual_0 rfl rfl ?_
  refine V.bipush (v := 115) dX12_usual_1 (by decide) ?_
  refine V.icmp_ne (tgt := 28) dX12_usual_3 rfl (fun c => ?_) (fun c => ?_)
  · replace hF := iq c hF
    refine V.iload_n 0 dX12_usual_28 rfl rfl ?_
    refine V.bipush (v := 98) dX12_usual_29 (by decide) ?_
    refine V.icmp_ne (tgt := 53) dX12_usual_31 rfl (fun c => ?_) (fun c => ?_)
    · replace hF := iq c hF
      refine V.iload_n 1 dX12_usual_53 rfl rfl ?_
      refine V.if_ne (tgt := 61) dX12_usual_54 rfl (fun c => ?_) (fun c => ?_)
      · replace hF := iq c hF
        refine V.iload_n 1 dX12_usual_61 rfl rfl ?_
        refine V.iconst (v := 1) dX12_usual_62 rfl ?_
        refine V.icmp_ne (tgt := 71) dX12_usual_63 rfl (fun c => ?_) (fun c => ?_)
        · replace hF := iq c hF
          refine V.iconst (v := 5) dX12_usual_71 rfl ?_
          cases hF
          exact V.iret dX12_usual_72
        · replace hF := ip c hF
          refine V.bipush (v := 15) dX12_usual_66 (by decide) ?_
          refine V.goto (tgt := 72) dX12_usual_68 rfl ?_
          cases hF
          exact V.iret dX12_usual_72
      · replace hF := ip c hF
        refine V.iconst (v := 2) dX12_usual_57 rfl ?_
        refine V.goto (tgt := 72) dX12_usual_58 rfl ?_
        cases hF
        exact V.iret dX12_usual_72
    · replace hF := ip c hF
      refine V.iload_n 1 dX12_usual_34 rfl rfl ?_
      refine V.if_ne (tgt := 42) dX12_usual_35 rfl (fun c => ?_) (fun c => ?_)
      · replace hF := iq c hF
        refine V.iload_n 1 dX12_usual_42 rfl rfl ?_
        refine V.iconst (v := 1) dX12_usual_43 rfl ?_
        refine V.icmp_ne (tgt := 51) dX12_usual_44 rfl (fun c => ?_) (fun c => ?_)
        · replace hF := iq c hF
          refine V.iconst (v := 0) dX12_usual_51 rfl ?_
          cases hF
          exact V.iret dX12_usual_52
        · replace hF := ip c hF
          refine V.iconst (v := 3) dX12_usual_47 rfl ?_
          refine V.goto (tgt := 52) dX12_usual_48 rfl ?_
          cases hF
          exact V.iret dX12_usual_52
      · replace hF := ip c hF
        refine V.iconst (v := 4) dX12_usual_38 rfl ?_
        refine V.goto (tgt := 52) dX12_usual_39 rfl ?_
        cases hF
        exact V.iret dX12_usual_52
  · replace hF := ip c hF
    refine V.iload_n 1 dX12_usual_6 rfl rfl ?_
    refine V.if_ne (tgt := 15) dX12_usual_7 rfl (fun c => ?_) (fun c => ?_)
    · replace hF := iq c hF
      refine V.iload_n 1 dX12_usual_15 rfl rfl ?_
      refine V.iconst (v := 1) dX12_usual_16 rfl ?_
      refine V.icmp_ne (tgt := 25) dX12_usual_17 rfl (fun c => ?_) (fun c => ?_)
      · replace hF := iq c hF
        refine V.bipush (v := 8) dX12_usual_25 (by decide) ?_
        cases hF
        exact V.iret dX12_usual_27
      · replace hF := ip c hF
        refine V.bipush (v := 25) dX12_usual_20 (by decide) ?_
        refine V.goto (tgt := 27) dX12_usual_22 rfl ?_
        cases hF
        exact V.iret dX12_usual_27
    · replace hF := ip c hF
      refine V.bipush (v := 10) dX12_usual_10 (by decide) ?_
      refine V.goto (tgt := 27) dX12_usual_12 rfl ?_
      cases hF
      exact V.iret dX12_usual_27
/-! MonsterCotModel.readItems -/
theorem dX12_readItems_0 : decode cX12_readItems 0 = .ok (.iconst 0, 1) := by decide +kernel
theorem dX12_readItems_1 : decode cX12_readItems 1 = .ok (.istore 5, 2) := by decide +kernel
theorem dX12_readItems_3 : decode cX12_readItems 3 = .ok (.iload 5, 2) := by decide +kernel
theorem dX12_readItems_5 : decode cX12_readItems 5 = .ok (.aload 4, 2) := by decide +kernel
theorem dX12_readItems_7 : decode cX12_readItems 7 = .ok (.invokevirtual 96, 3) := by decide +kernel
theorem dX12_readItems_10 : decode cX12_readItems 10 = .ok (.if_icmp .ge 21, 3) := by decide +kernel
theorem dX12_readItems_13 : decode cX12_readItems 13 = .ok (.aload_n 2, 1) := by decide +kernel
theorem dX12_readItems_14 : decode cX12_readItems 14 = .ok (.iload_n 3, 1) := by decide +kernel
theorem dX12_readItems_15 : decode cX12_readItems 15 = .ok (.iload 5, 2) := by decide +kernel
theorem dX12_readItems_17 : decode cX12_readItems 17 = .ok (.iadd, 1) := by decide +kernel
theorem dX12_readItems_18 : decode cX12_readItems 18 = .ok (.iload_n 1, 1) := by decide +kernel
theorem dX12_readItems_19 : decode cX12_readItems 19 = .ok (.iload 5, 2) := by decide +kernel
theorem dX12_readItems_21 : decode cX12_readItems 21 = .ok (.invokestatic 218, 3) := by decide +kernel
theorem dX12_readItems_24 : decode cX12_readItems 24 = .ok (.iastore, 1) := by decide +kernel
theorem dX12_readItems_25 : decode cX12_readItems 25 = .ok (.iinc 5 1, 3) := by decide +kernel
theorem dX12_readItems_28 : decode cX12_readItems 28 = .ok (.goto (-25), 3) := by decide +kernel
theorem dX12_readItems_31 : decode cX12_readItems 31 = .ok (.iconst 0, 1) := by decide +kernel
theorem dX12_readItems_32 : decode cX12_readItems 32 = .ok (.istore 5, 2) := by decide +kernel
theorem dX12_readItems_34 : decode cX12_readItems 34 = .ok (.aload 4, 2) := by decide +kernel
theorem dX12_readItems_36 : decode cX12_readItems 36 = .ok (.aload_n 0, 1) := by decide +kernel
theorem dX12_readItems_37 : decode cX12_readItems 37 = .ok (.invokevirtual 135, 3) := by decide +kernel
theorem dX12_readItems_40 : decode cX12_readItems 40 = .ok (.invokestatic 222, 3) := by decide +kernel
theorem dX12_readItems_43 : decode cX12_readItems 43 = .ok (.istore 6, 2) := by decide +kernel
theorem dX12_readItems_45 : decode cX12_readItems 45 = .ok (.iload 6, 2) := by decide +kernel
theorem dX12_readItems_47 : decode cX12_readItems 47 = .ok (.iconst (-1), 1) := by decide +kernel
theorem dX12_readItems_48 : decode cX12_readItems 48 = .ok (.if_icmp .eq 90, 3) := by decide +kernel
theorem dX12_readItems_51 : decode cX12_readItems 51 = .ok (.aload_n 0, 1) := by decide +kernel
theorem dX12_readItems_52 : decode cX12_readItems 52 = .ok (.getfield 125, 3) := by decide +kernel
theorem dX12_readItems_55 : decode cX12_readItems 55 = .ok (.iconst (-1), 1) := by decide +kernel
theorem dX12_readItems_56 : decode cX12_readItems 56 = .ok (.if_icmp .ne 82, 3) := by decide +kernel
theorem dX12_readItems_59 : decode cX12_readItems 59 = .ok (.iload 5, 2) := by decide +kernel
theorem dX12_readItems_61 : decode cX12_readItems 61 = .ok (.iload 6, 2) := by decide +kernel
theorem dX12_readItems_63 : decode cX12_readItems 63 = .ok (.invokestatic 226, 3) := by decide +kernel
theorem dX12_readItems_66 : decode cX12_readItems 66 = .ok (.ifCond .eq 9, 3) := by decide +kernel
theorem dX12_readItems_69 : decode cX12_readItems 69 = .ok (.aload_n 0, 1) := by decide +kernel
theorem dX12_readItems_70 : decode cX12_readItems 70 = .ok (.invokevirtual 131, 3) := by decide +kernel
theorem dX12_readItems_73 : decode cX12_readItems 73 = .ok (.pop, 1) := by decide +kernel
theorem dX12_readItems_74 : decode cX12_readItems 74 = .ok (.return_, 1) := by decide +kernel
theorem dX12_readItems_75 : decode cX12_readItems 75 = .ok (.iload 5, 2) := by decide +kernel
theorem dX12_readItems_77 : decode cX12_readItems 77 = .ok (.iconst 1, 1) := by decide +kernel
theorem dX12_readItems_78 : decode cX12_readItems 78 = .ok (.iload 6, 2) := by decide +kernel
theorem dX12_readItems_80 : decode cX12_readItems 80 = .ok (.ishl, 1) := by decide +kernel
theorem dX12_readItems_81 : decode cX12_readItems 81 = .ok (.ior, 1) := by decide +kernel
theorem dX12_readItems_82 : decode cX12_readItems 82 = .ok (.istore 5, 2) := by decide +kernel
theorem dX12_readItems_84 : decode cX12_readItems 84 = .ok (.aload_n 0, 1) := by decide +kernel
theorem dX12_readItems_85 : decode cX12_readItems 85 = .ok (.dup, 1) := by decide +kernel
theorem dX12_readItems_86 : decode cX12_readItems 86 = .ok (.getfield 116, 3) := by decide +kernel
theorem dX12_readItems_89 : decode cX12_readItems 89 = .ok (.iconst 1, 1) := by decide +kernel
theorem dX12_readItems_90 : decode cX12_readItems 90 = .ok (.iadd, 1) := by decide +kernel
theorem dX12_readItems_91 : decode cX12_readItems 91 = .ok (.putfield 116, 3) := by decide +kernel
theorem dX12_readItems_94 : decode cX12_readItems 94 = .ok (.aload_n 2, 1) := by decide +kernel
theorem dX12_readItems_95 : decode cX12_readItems 95 = .ok (.iload_n 3, 1) := by decide +kernel
theorem dX12_readItems_96 : decode cX12_readItems 96 = .ok (.iload 6, 2) := by decide +kernel
theorem dX12_readItems_98 : decode cX12_readItems 98 = .ok (.iadd, 1) := by decide +kernel
theorem dX12_readItems_99 : decode cX12_readItems 99 = .ok (.aload_n 0, 1) := by decide +kernel
theorem dX12_readItems_100 : decode cX12_readItems 100 = .ok (.iload_n 1, 1) := by decide +kernel
theorem dX12_readItems_101 : decode cX12_readItems 101 = .ok (.iload 6, 2) := by decide +kernel
theorem dX12_readItems_103 : decode cX12_readItems 103 = .ok (.invokestatic 230, 3) := by decide +kernel
theorem dX12_readItems_106 : decode cX12_readItems 106 = .ok (.iload_n 1, 1) := by decide +kernel
theorem dX12_readItems_107 : decode cX12_readItems 107 = .ok (.iload 6, 2) := by decide +kernel
theorem dX12_readItems_109 : decode cX12_readItems 109 = .ok (.invokestatic 233, 3) := by decide +kernel
theorem dX12_readItems_112 : decode cX12_readItems 112 = .ok (.invokevirtual 236, 3) := by decide +kernel
theorem dX12_readItems_115 : decode cX12_readItems 115 = .ok (.iastore, 1) := by decide +kernel
theorem dX12_readItems_116 : decode cX12_readItems 116 = .ok (.aload_n 0, 1) := by decide +kernel
theorem dX12_readItems_117 : decode cX12_readItems 117 = .ok (.getfield 125, 3) := by decide +kernel
theorem dX12_readItems_120 : decode cX12_readItems 120 = .ok (.iconst (-1), 1) := by decide +kernel
theorem dX12_readItems_121 : decode cX12_readItems 121 = .ok (.if_icmp .ne (-76), 3) := by decide +kernel
theorem dX12_readItems_124 : decode cX12_readItems 124 = .ok (.aload 4, 2) := by decide +kernel
theorem dX12_readItems_126 : decode cX12_readItems 126 = .ok (.aload_n 0, 1) := by decide +kernel
theorem dX12_readItems_127 : decode cX12_readItems 127 = .ok (.invokevirtual 135, 3) := by decide +kernel
theorem dX12_readItems_130 : decode cX12_readItems 130 = .ok (.invokestatic 222, 3) := by decide +kernel
theorem dX12_readItems_133 : decode cX12_readItems 133 = .ok (.istore 6, 2) := by decide +kernel
theorem dX12_readItems_135 : decode cX12_readItems 135 = .ok (.goto (-90), 3) := by decide +kernel
theorem dX12_readItems_138 : decode cX12_readItems 138 = .ok (.return_, 1) := by decide +kernel
def X12_readItems_45 (n : Nat) (a2 : Nat) (a4 : Nat) : Nat → Int32 → Int32 → Int32 → Int32 → Mm → Option (Unit × Mm)
  | 0, _, _, _, _, _ => none
  | f + 1, x1, x3, x5, x6, h => (if x6 = (-1 : Int32) then (some ((), h)) else (if (h.1 251 11) = (-1 : Int32) then (bp (X12_has x5 x6 h) (fun r62 => (if r62 = true then (bd (X12_fails h) (fun r76 h78 => (some ((), h78)))) else (bp (X12_leastOf x1 x6 (wI h 251 10 ((h.1 251 10) + (1 : Int32)))) (fun r64 => (bp (X12_mostOf x1 x6 (wI h 251 10 ((h.1 251 10) + (1 : Int32)))) (fun r66 => (bd (X12_number n r64 r66 (wI h 251 10 ((h.1 251 10) + (1 : Int32)))) (fun r68 h70 => (if inB (x3 + x6) (aln a2) then (if ((wI h70 a2 (x3 + x6).toNatClampNeg r68).1 251 11) = (-1 : Int32) then (bd (X12_look n (wI h70 a2 (x3 + x6).toNatClampNeg r68)) (fun r71 h73 => (bp (X12_spotOf n a4 r71 h73) (fun r74 => ((X12_readItems_45 n a2 a4 f) x1 x3 (x5 ||| ((1 : Int32) <<< (x6 &&& 31))) r74 h73))))) else ((X12_readItems_45 n a2 a4 f) x1 x3 (x5 ||| ((1 : Int32) <<< (x6 &&& 31))) x6 (wI h70 a2 (x3 + x6).toNatClampNeg r68))) else none)))))))))) else (some ((), h))))
set_option maxRecDepth 100000 in
set_option maxHeartbeats 4000000 in
theorem v_X12_readItems_45 {X : WX} {G : GX} {o : Mm} {n : Nat} {a2 : Nat} {a4 : Nat} {rv : Unit} {hz : Mm} (ha2 : isO false 0 a2) (ha4 : isS a4) : ∀ (f : Nat) (x1 : Int32) (x3 : Int32) (x5 : Int32) (x6 : Int32) (h : Mm), X12_readItems_45 n a2 a4 f x1 x3 x5 x6 h = some (rv, hz) → V X G RX12 cX12_readItems 7 (none) 6 0 0 (QR X G false o none hz) false o 45 [(0, .ref (xa X 251)), (1, .int x1), (2, .ref (xa X a2)), (3, .int x3), (4, .ref (xa X a4)), (5, .int x5), (6, .int x6)] [] h := by
  intro f
  induction f with
  | zero => intro x1 x3 x5 x6 h hF; exact nomatch (show (none : Option (Unit × Mm)) = some (rv, hz) from hF)
  | succ f ih =>
    intro x1 x3 x5 x6 h hF
    unfold X12_readItems_45 at hF
    refine V.iload 6 dX12_readItems_45 rfl ?_
    refine V.iconst (v := -1) dX12_readItems_47 rfl ?_
    refine V.icmp_eq (tgt := 138) dX12_readItems_48 rfl (fun c => ?_) (fun c => ?_)
    · replace hF := ip c hF
      cases hF
      exact V.vret dX12_readItems_138
    · replace hF := iq c hF
      refine V.aload_n 0 dX12_readItems_51 rfl rfl ?_
      refine V.getI fl_X12_125 sh_251 rfl km_251 dX12_readItems_52 ?_
      refine V.iconst (v := -1) dX12_readItems_55 rfl ?_
      refine V.icmp_ne (tgt := 138) dX12_readItems_56 rfl (fun c => ?_) (fun c => ?_)
      · replace hF := iq c hF
        cases hF
        exact V.vret dX12_readItems_138
      · replace hF := ip c hF
        refine V.iload 5 dX12_readItems_59 rfl ?_
        refine V.iload 6 dX12_readItems_61 rfl ?_
        obtain ⟨r62, hc63, hF⟩ := bp_s hF
        refine V.callSi mf_X12_has ml_X12_226 (s_X12_has hc63) (by decide) rfl rfl (Nat.le_of_ble_eq_true rfl) dX12_readItems_63 ?_
        refine V.ifz_eq (tgt := 75) dX12_readItems_66 rfl (fun c => ?_) (fun c => ?_)
        · replace hF := iq c hF
          refine V.iload 5 dX12_readItems_75 rfl ?_
          refine V.iconst (v := 1) dX12_readItems_77 rfl ?_
          refine V.iload 6 dX12_readItems_78 rfl ?_
          refine V.ishl dX12_readItems_80 ?_
          refine V.ior dX12_readItems_81 ?_
          refine V.istore [(5, _), (0, _), (1, _), (2, _), (3, _), (4, _), (6, _)] dX12_readItems_82 (by decide) rfl ?_
          refine V.aload_n 1 dX12_readItems_84 rfl rfl ?_
          refine V.dup dX12_readItems_85 rfl ?_
          refine V.getI fl_X12_116 sh_251 rfl km_251 dX12_readItems_86 ?_
          refine V.iconst (v := 1) dX12_readItems_89 rfl ?_
          refine V.iadd dX12_readItems_90 ?_
          refine V.putI fl_X12_116 rfl (tyX12_ok 10 (by decide)) rfl rfl sh_251 rfl km_251 dX12_readItems_91 ?_
          refine V.aload_n 3 dX12_readItems_94 rfl rfl ?_
          refine V.iload_n 4 dX12_readItems_95 rfl rfl ?_
          refine V.iload 6 dX12_readItems_96 rfl ?_
          refine V.iadd dX12_readItems_98 ?_
          refine V.aload_n 1 dX12_readItems_99 rfl rfl ?_
          refine V.iload_n 2 dX12_readItems_100 rfl rfl ?_
          refine V.iload 6 dX12_readItems_101 rfl ?_
          obtain ⟨r64, hc65, hF⟩ := bp_s hF
          refine V.callSi mf_X12_leastOf ml_X12_230 (s_X12_leastOf hc65) (by decide) rfl rfl (Nat.le_of_ble_eq_true rfl) dX12_readItems_103 ?_
          refine V.iload_n 2 dX12_readItems_106 rfl rfl ?_
          refine V.iload 6 dX12_readItems_107 rfl ?_
          obtain ⟨r66, hc67, hF⟩ := bp_s hF
          refine V.callSi mf_X12_mostOf ml_X12_233 (s_X12_mostOf hc67) (by decide) rfl rfl (Nat.le_of_ble_eq_true rfl) dX12_readItems_109 ?_
          obtain ⟨r68, h70, hc69, hF⟩ := bd_s hF
          refine V.callVi mf_X12_number ml_X12_236 sh_251 (s_X12_number hc69) (by decide) rfl rfl (Nat.le_of_ble_eq_true rfl) dX12_readItems_112 ?_
          obtain ⟨hk, hF⟩ := ck hF
          refine V.iast ha2 hk dX12_readItems_115 ?_
          refine V.aload_n 1 dX12_readItems_116 rfl rfl ?_
          refine V.getI fl_X12_125 sh_251 rfl km_251 dX12_readItems_117 ?_
          refine V.iconst (v := -1) dX12_readItems_120 rfl ?_
          refine V.icmp_ne (tgt := 45) dX12_readItems_121 rfl (fun c => ?_) (fun c => ?_)
          · replace hF := iq c hF
            exact V.sub [1, 2, 3, 4, 5, 0, 6] rfl (ih _ _ _ _ _ hF)
          · replace hF := ip c hF
            refine V.aload 5 dX12_readItems_124 rfl ?_
            refine V.aload_n 1 dX12_readItems_126 rfl rfl ?_
            obtain ⟨r71, h73, hc72, hF⟩ := bd_s hF
            refine V.callVi mf_X12_look ml_X12_135 sh_251 (s_X12_look hc72) (by decide) rfl rfl (Nat.le_of_ble_eq_true rfl) dX12_readItems_127 ?_
            obtain ⟨r74, hc75, hF⟩ := bp_s hF
            refine V.callSi mf_X12_spotOf ml_X12_222 (s_X12_spotOf ha4 hc75) (by decide) rfl rfl (Nat.le_of_ble_eq_true rfl) dX12_readItems_130 ?_
            refine V.istore [(6, _), (5, _), (0, _), (1, _), (2, _), (3, _), (4, _)] dX12_readItems_133 (by decide) rfl ?_
            refine V.goto (tgt := 45) dX12_readItems_135 rfl ?_
            exact V.sub [2, 3, 4, 5, 6, 1, 0] rfl (ih _ _ _ _ _ hF)
        · replace hF := ip c hF
          refine V.aload_n 0 dX12_readItems_69 rfl rfl ?_
          obtain ⟨r76, h78, hc77, hF⟩ := bd_s hF
          refine V.callVi mf_X12_fails ml_X12_131 sh_251 (s_X12_fails hc77) (by decide) rfl rfl (Nat.le_of_ble_eq_true rfl) dX12_readItems_70 ?_
          refine V.pop dX12_readItems_73 rfl ?_
          cases hF
          exact V.vret dX12_readItems_74
def X12_readItems_3 (n : Nat) (a2 : Nat) (a4 : Nat) : Nat → Int32 → Int32 → Int32 → Mm → Option (Unit × Mm)
  | 0, _, _, _, _ => none
  | f + 1, x1, x3, x5, h => (bp (J0_length_8abf5 a4 h) (fun r79 => (if r79 ≤ x5 then (bd (X12_look n h) (fun r81 h83 => (bp (X12_spotOf n a4 r81 h83) (fun r84 => (X12_readItems_45 n a2 a4 n x1 x3 (0 : Int32) r84 h83))))) else (bp (X12_usual x1 x5 h) (fun r86 => (if inB (x3 + x5) (aln a2) then ((X12_readItems_3 n a2 a4 f) x1 x3 (x5 + (1)) (wI h a2 (x3 + x5).toNatClampNeg r86)) else none))))))
set_option maxRecDepth 100000 in
set_option maxHeartbeats 4000000 in
theorem v_X12_readItems_3 {X : WX} {G : GX} {o : Mm} {n : Nat} {a2 : Nat} {a4 : Nat} {rv : Unit} {hz : Mm} (ha2 : isO false 0 a2) (ha4 : isS a4) : ∀ (f : Nat) (x1 : Int32) (x3 : Int32) (x5 : Int32) (h : Mm), X12_readItems_3 n a2 a4 f x1 x3 x5 h = some (rv, hz) → V X G RX12 cX12_readItems 7 (none) 6 0 0 (QR X G false o none hz) false o 3 [(0, .ref (xa X 251)), (1, .int x1), (2, .ref (xa X a2)), (3, .int x3), (4, .ref (xa X a4)), (5, .int x5)] [] h := by
  intro f
  induction f with
  | zero => intro x1 x3 x5 h hF; exact nomatch (show (none : Option (Unit × Mm)) = some (rv, hz) from hF)
  | succ f ih =>
    intro x1 x3 x5 h hF
    unfold X12_readItems_3 at hF
    refine V.iload 5 dX12_readItems_3 rfl ?_
    refine V.aload 4 dX12_readItems_5 rfl ?_
    obtain ⟨r79, hc80, hF⟩ := bp_s hF
    refine V.callTi mf_J0_length_8abf5 ml_X12_96 ha4 (s_J0_length_8abf5 ha4 hc80) (by decide) rfl rfl (Nat.le_of_ble_eq_true rfl) dX12_readItems_7 ?_
    refine V.icmp_ge (tgt := 31) dX12_readItems_10 rfl (fun c => ?_) (fun c => ?_)
    · replace hF := ip c hF
      refine V.iconst (v := 0) dX12_readItems_31 rfl ?_
      refine V.istore [(5, _), (0, _), (1, _), (2, _), (3, _), (4, _)] dX12_readItems_32 (by decide) rfl ?_
      refine V.aload 5 dX12_readItems_34 rfl ?_
      refine V.aload_n 1 dX12_readItems_36 rfl rfl ?_
      obtain ⟨r81, h83, hc82, hF⟩ := bd_s hF
      refine V.callVi mf_X12_look ml_X12_135 sh_251 (s_X12_look hc82) (by decide) rfl rfl (Nat.le_of_ble_eq_true rfl) dX12_readItems_37 ?_
      obtain ⟨r84, hc85, hF⟩ := bp_s hF
      refine V.callSi mf_X12_spotOf ml_X12_222 (s_X12_spotOf ha4 hc85) (by decide) rfl rfl (Nat.le_of_ble_eq_true rfl) dX12_readItems_40 ?_
      refine V.istore [(6, _), (5, _), (0, _), (1, _), (2, _), (3, _), (4, _)] dX12_readItems_43 (by decide) rfl ?_
      exact V.sub [2, 3, 4, 5, 6, 1, 0] rfl (v_X12_readItems_45 ha2 ha4 n _ _ _ _ _ hF)
    · replace hF := iq c hF
      refine V.aload_n 2 dX12_readItems_13 rfl rfl ?_
      refine V.iload_n 3 dX12_readItems_14 rfl rfl ?_
      refine V.iload 5 dX12_readItems_15 rfl ?_
      refine V.iadd dX12_readItems_17 ?_
      refine V.iload_n 1 dX12_readItems_18 rfl rfl ?_
      refine V.iload 5 dX12_readItems_19 rfl ?_
      obtain ⟨r86, hc87, hF⟩ := bp_s hF
      refine V.callSi mf_X12_usual ml_X12_218 (s_X12_usual hc87) (by decide) rfl rfl (Nat.le_of_ble_eq_true rfl) dX12_readItems_21 ?_
      obtain ⟨hk, hF⟩ := ck hF
      refine V.iast ha2 hk dX12_readItems_24 ?_
      refine V.iinc (v := (x5 + (1))) 5 [(5, _), (0, _), (1, _), (2, _), (3, _), (4, _)] dX12_readItems_25 rfl rfl (by decide) rfl ?_
      refine V.goto (tgt := 3) dX12_readItems_28 rfl ?_
      exact V.sub [1, 2, 3, 4, 5, 0] rfl (ih _ _ _ _ hF)
def X12_readItems (n : Nat) (x1 : Int32) (a2 : Nat) (x3 : Int32) (a4 : Nat) (h : Mm) : Option (Unit × Mm) := (X12_readItems_3 n a2 a4 n x1 x3 (0 : Int32) h)
set_option maxRecDepth 100000 in
set_option maxHeartbeats 4000000 in
theorem s_X12_readItems {X : WX} {o : Mm} {n : Nat} {x1 : Int32} {a2 : Nat} {x3 : Int32} {a4 : Nat} {rv : Unit} {hz : Mm} {h : Mm} (ha2 : isO false 0 a2) (ha4 : isS a4) (hF : X12_readItems n x1 a2 x3 a4 h = some (rv, hz)) : Sat X yX12_readItems cX12_readItems 7 (none) 6 [.ref (xa X 251), .int x1, .ref (xa X a2), .int x3, .ref (xa X a4)] false o h none hz := by
  unfold X12_readItems at hF
  refine Sat.mk (own := RX12) rfl (by decide +kernel) (Nat.le_of_ble_eq_true rfl) (fun G => ?_)
  refine V.sub (lv2 := [(0, _), (1, _), (2, _), (3, _), (4, _)]) [0, 1, 2, 3, 4] rfl ?_
  refine V.iconst (v := 0) dX12_readItems_0 rfl ?_
  refine V.istore [(5, _), (0, _), (1, _), (2, _), (3, _), (4, _)] dX12_readItems_1 (by decide) rfl ?_
  exact V.sub [1, 2, 3, 4, 5, 0] rfl (v_X12_readItems_3 ha2 ha4 n _ _ _ _ hF)
