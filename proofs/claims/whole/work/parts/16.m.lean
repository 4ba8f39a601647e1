/-! MonsterCot$Search.isEnough -/
theorem dX6_isEnough_0 : decode cX6_isEnough 0 = .ok (.aload_n 0, 1) := by decide +kernel
theorem dX6_isEnough_1 : decode cX6_isEnough 1 = .ok (.getfield 15, 3) := by decide +kernel
theorem dX6_isEnough_4 : decode cX6_isEnough 4 = .ok (.iload_n 1, 1) := by decide +kernel
theorem dX6_isEnough_5 : decode cX6_isEnough 5 = .ok (.bipush 10, 2) := by decide +kernel
theorem dX6_isEnough_7 : decode cX6_isEnough 7 = .ok (.imul, 1) := by decide +kernel
theorem dX6_isEnough_8 : decode cX6_isEnough 8 = .ok (.iload_n 2, 1) := by decide +kernel
theorem dX6_isEnough_9 : decode cX6_isEnough 9 = .ok (.iadd, 1) := by decide +kernel
theorem dX6_isEnough_10 : decode cX6_isEnough 10 = .ok (.invokestatic 79, 3) := by decide +kernel
theorem dX6_isEnough_13 : decode cX6_isEnough 13 = .ok (.ifCond .eq 7, 3) := by decide +kernel
theorem dX6_isEnough_16 : decode cX6_isEnough 16 = .ok (.iconst 1, 1) := by decide +kernel
theorem dX6_isEnough_17 : decode cX6_isEnough 17 = .ok (.goto 4, 3) := by decide +kernel
theorem dX6_isEnough_20 : decode cX6_isEnough 20 = .ok (.iconst 0, 1) := by decide +kernel
theorem dX6_isEnough_21 : decode cX6_isEnough 21 = .ok (.ireturn, 1) := by decide +kernel
def X6_isEnough (x1 : Int32) (x2 : Int32) (h : Mm) : Option Bool := (bp (X11_at 248 ((x1 * (10)) + x2) h) (fun r3 => (if r3 = 0 then (some false) else (some true))))
set_option maxRecDepth 100000 in
set_option maxHeartbeats 4000000 in
theorem s_X6_isEnough {X : WX} {o : Mm} {x1 : Int32} {x2 : Int32} {rv : Bool} {h : Mm} (hF : X6_isEnough x1 x2 h = some rv) : Sat X yX6_isEnough cX6_isEnough 3 (some .boolean) 2 [.ref (xa X 246), .int x1, .int x2] true o h (some (.int (b2i rv))) h := by
  unfold X6_isEnough at hF
  refine Sat.mk (own := RX6) rfl (by decide +kernel) (Nat.le_of_ble_eq_true rfl) (fun G => ?_)
  refine V.sub (lv2 := [(0, _), (1, _), (2, _)]) [0, 1, 2] rfl ?_
  refine V.aload_n 0 dX6_isEnough_0 rfl rfl ?_
  refine V.getR (v := 248) fl_X6_15 sh_246 rfl fx_246_5 (by decide) dX6_isEnough_1 ?_
  refine V.iload_n 1 dX6_isEnough_4 rfl rfl ?_
  refine V.bipush (v := 10) dX6_isEnough_5 (by decide) ?_
  refine V.imul dX6_isEnough_7 ?_
  refine V.iload_n 2 dX6_isEnough_8 rfl rfl ?_
  refine V.iadd dX6_isEnough_9 ?_
  obtain ⟨r3, hc4, hF⟩ := bp_s hF
  refine V.callNi mf_X11_at ml_X6_79 (s_X11_at (Or.inl io_248) hc4) (by decide) rfl rfl (Nat.le_of_ble_eq_true rfl) dX6_isEnough_10 ?_
  refine V.if_eq (tgt := 20) dX6_isEnough_13 rfl (fun c => ?_) (fun c => ?_)
  · replace hF := (if_pos c).symm.trans hF
    refine V.iconst (v := 0) dX6_isEnough_20 rfl ?_
    cases hF
    exact V.bret dX6_isEnough_21
  · replace hF := (if_neg c).symm.trans hF
    refine V.iconst (v := 1) dX6_isEnough_16 rfl ?_
    refine V.goto (tgt := 21) dX6_isEnough_17 rfl ?_
    cases hF
    exact V.bret dX6_isEnough_21
/-! MonsterCot$Search.isRest -/
theorem dX6_isRest_0 : decode cX6_isRest 0 = .ok (.aload_n 0, 1) := by decide +kernel
theorem dX6_isRest_1 : decode cX6_isRest 1 = .ok (.iload_n 1, 1) := by decide +kernel
theorem dX6_isRest_2 : decode cX6_isRest 2 = .ok (.iload_n 2, 1) := by decide +kernel
theorem dX6_isRest_3 : decode cX6_isRest 3 = .ok (.invokevirtual 170, 3) := by decide +kernel
theorem dX6_isRest_6 : decode cX6_isRest 6 = .ok (.iload_n 1, 1) := by decide +kernel
theorem dX6_isRest_7 : decode cX6_isRest 7 = .ok (.iload_n 2, 1) := by decide +kernel
theorem dX6_isRest_8 : decode cX6_isRest 8 = .ok (.invokestatic 174, 3) := by decide +kernel
theorem dX6_isRest_11 : decode cX6_isRest 11 = .ok (.istore 4, 2) := by decide +kernel
theorem dX6_isRest_13 : decode cX6_isRest 13 = .ok (.aload_n 0, 1) := by decide +kernel
theorem dX6_isRest_14 : decode cX6_isRest 14 = .ok (.iload_n 1, 1) := by decide +kernel
theorem dX6_isRest_15 : decode cX6_isRest 15 = .ok (.iload_n 2, 1) := by decide +kernel
theorem dX6_isRest_16 : decode cX6_isRest 16 = .ok (.invokevirtual 170, 3) := by decide +kernel
theorem dX6_isRest_19 : decode cX6_isRest 19 = .ok (.iload_n 2, 1) := by decide +kernel
theorem dX6_isRest_20 : decode cX6_isRest 20 = .ok (.iload_n 1, 1) := by decide +kernel
theorem dX6_isRest_21 : decode cX6_isRest 21 = .ok (.invokestatic 174, 3) := by decide +kernel
theorem dX6_isRest_24 : decode cX6_isRest 24 = .ok (.istore 5, 2) := by decide +kernel
theorem dX6_isRest_26 : decode cX6_isRest 26 = .ok (.iconst 0, 1) := by decide +kernel
theorem dX6_isRest_27 : decode cX6_isRest 27 = .ok (.istore 6, 2) := by decide +kernel
theorem dX6_isRest_29 : decode cX6_isRest 29 = .ok (.iload 6, 2) := by decide +kernel
theorem dX6_isRest_31 : decode cX6_isRest 31 = .ok (.iload_n 3, 1) := by decide +kernel
theorem dX6_isRest_32 : decode cX6_isRest 32 = .ok (.if_icmp .gt 71, 3) := by decide +kernel
theorem dX6_isRest_35 : decode cX6_isRest 35 = .ok (.aload_n 0, 1) := by decide +kernel
theorem dX6_isRest_36 : decode cX6_isRest 36 = .ok (.iload 6, 2) := by decide +kernel
theorem dX6_isRest_38 : decode cX6_isRest 38 = .ok (.iload_n 2, 1) := by decide +kernel
theorem dX6_isRest_39 : decode cX6_isRest 39 = .ok (.invokevirtual 170, 3) := by decide +kernel
theorem dX6_isRest_42 : decode cX6_isRest 42 = .ok (.iload 6, 2) := by decide +kernel
theorem dX6_isRest_44 : decode cX6_isRest 44 = .ok (.iload_n 2, 1) := by decide +kernel
theorem dX6_isRest_45 : decode cX6_isRest 45 = .ok (.invokestatic 174, 3) := by decide +kernel
theorem dX6_isRest_48 : decode cX6_isRest 48 = .ok (.iload 4, 2) := by decide +kernel
theorem dX6_isRest_50 : decode cX6_isRest 50 = .ok (.if_icmp .le 7, 3) := by decide +kernel
theorem dX6_isRest_53 : decode cX6_isRest 53 = .ok (.iconst 1, 1) := by decide +kernel
theorem dX6_isRest_54 : decode cX6_isRest 54 = .ok (.goto 4, 3) := by decide +kernel
theorem dX6_isRest_57 : decode cX6_isRest 57 = .ok (.iconst 0, 1) := by decide +kernel
theorem dX6_isRest_58 : decode cX6_isRest 58 = .ok (.istore 7, 2) := by decide +kernel
theorem dX6_isRest_60 : decode cX6_isRest 60 = .ok (.aload_n 0, 1) := by decide +kernel
theorem dX6_isRest_61 : decode cX6_isRest 61 = .ok (.iload_n 1, 1) := by decide +kernel
theorem dX6_isRest_62 : decode cX6_isRest 62 = .ok (.iload 6, 2) := by decide +kernel
theorem dX6_isRest_64 : decode cX6_isRest 64 = .ok (.invokevirtual 170, 3) := by decide +kernel
theorem dX6_isRest_67 : decode cX6_isRest 67 = .ok (.iload 6, 2) := by decide +kernel
theorem dX6_isRest_69 : decode cX6_isRest 69 = .ok (.iload_n 1, 1) := by decide +kernel
theorem dX6_isRest_70 : decode cX6_isRest 70 = .ok (.invokestatic 174, 3) := by decide +kernel
theorem dX6_isRest_73 : decode cX6_isRest 73 = .ok (.iload 5, 2) := by decide +kernel
theorem dX6_isRest_75 : decode cX6_isRest 75 = .ok (.if_icmp .le 7, 3) := by decide +kernel
theorem dX6_isRest_78 : decode cX6_isRest 78 = .ok (.iconst 1, 1) := by decide +kernel
theorem dX6_isRest_79 : decode cX6_isRest 79 = .ok (.goto 4, 3) := by decide +kernel
theorem dX6_isRest_82 : decode cX6_isRest 82 = .ok (.iconst 0, 1) := by decide +kernel
theorem dX6_isRest_83 : decode cX6_isRest 83 = .ok (.istore 8, 2) := by decide +kernel
theorem dX6_isRest_85 : decode cX6_isRest 85 = .ok (.iload 7, 2) := by decide +kernel
theorem dX6_isRest_87 : decode cX6_isRest 87 = .ok (.ifCond .ne 8, 3) := by decide +kernel
theorem dX6_isRest_90 : decode cX6_isRest 90 = .ok (.iload 8, 2) := by decide +kernel
theorem dX6_isRest_92 : decode cX6_isRest 92 = .ok (.ifCond .eq 5, 3) := by decide +kernel
theorem dX6_isRest_95 : decode cX6_isRest 95 = .ok (.iconst 0, 1) := by decide +kernel
theorem dX6_isRest_96 : decode cX6_isRest 96 = .ok (.ireturn, 1) := by decide +kernel
theorem dX6_isRest_97 : decode cX6_isRest 97 = .ok (.iinc 6 1, 3) := by decide +kernel
theorem dX6_isRest_100 : decode cX6_isRest 100 = .ok (.goto (-71), 3) := by decide +kernel
theorem dX6_isRest_103 : decode cX6_isRest 103 = .ok (.iconst 1, 1) := by decide +kernel
theorem dX6_isRest_104 : decode cX6_isRest 104 = .ok (.ireturn, 1) := by decide +kernel
def X6_isRest_83 (n : Nat) (K29 : Int32 → Int32 → Int32 → Int32 → Int32 → Int32 → Mm → Option Bool) (x1 : Int32) (x2 : Int32) (x3 : Int32) (x4 : Int32) (x5 : Int32) (x6 : Int32) (x7 : Bool) (s0 : Bool) (h : Mm) : Option Bool := (if x7 = true then (some false) else (if s0 = true then (some false) else (K29 x1 x2 x3 x4 x5 (x6 + (1)) h)))
set_option maxRecDepth 100000 in
set_option maxHeartbeats 4000000 in
theorem v_X6_isRest_83 {X : WX} {G : GX} {o : Mm} {n : Nat} {K29 : Int32 → Int32 → Int32 → Int32 → Int32 → Int32 → Mm → Option Bool} {rv : Bool} {h : Mm} (hK29 : ∀ (x1 : Int32) (x2 : Int32) (x3 : Int32) (x4 : Int32) (x5 : Int32) (x6 : Int32), K29 x1 x2 x3 x4 x5 x6 h = some rv → V X G RX6 cX6_isRest 9 (some .boolean) 3 0 0 (QR X G true o (some (.int (b2i rv))) h) true o 29 [(0, .ref (xa X 246)), (1, .int x1), (2, .int x2), (3, .int x3), (4, .int x4), (5, .int x5), (6, .int x6)] [] h) {x1 : Int32} {x2 : Int32} {x3 : Int32} {x4 : Int32} {x5 : Int32} {x6 : Int32} {x7 : Bool} {s0 : Bool} (hF : X6_isRest_83 n K29 x1 x2 x3 x4 x5 x6 x7 s0 h = some rv) : V X G RX6 cX6_isRest 9 (some .boolean) 3 0 0 (QR X G true o (some (.int (b2i rv))) h) true o 83 [(0, .ref (xa X 246)), (1, .int x1), (2, .int x2), (3, .int x3), (4, .int x4), (5, .int x5), (6, .int x6), (7, .int (b2i x7))] [.int (b2i s0)] h := by
  unfold X6_isRest_83 at hF
  refine V.istore [(8, _), (0, _), (1, _), (2, _), (3, _), (4, _), (5, _), (6, _), (7, _)] dX6_isRest_83 (by decide) rfl ?_
  refine V.iload 8 dX6_isRest_85 rfl ?_
  refine V.ifz_ne (tgt := 95) dX6_isRest_87 rfl (fun c => ?_) (fun c => ?_)
  · replace hF := (if_pos c).symm.trans hF
    refine V.iconst (v := 0) dX6_isRest_95 rfl ?_
    cases hF
    exact V.bret dX6_isRest_96
  · replace hF := (if_neg c).symm.trans hF
    refine V.iload 0 dX6_isRest_90 rfl ?_
    refine V.ifz_eq (tgt := 97) dX6_isRest_92 rfl (fun c => ?_) (fun c => ?_)
    · replace hF := (if_neg c).symm.trans hF
      refine V.iinc (v := (x6 + (1))) 7 [(6, _), (8, _), (0, _), (1, _), (2, _), (3, _), (4, _), (5, _), (7, _)] dX6_isRest_97 rfl rfl (by decide) rfl ?_
      refine V.goto (tgt := 29) dX6_isRest_100 rfl ?_
      exact V.sub [2, 3, 4, 5, 6, 7, 0] rfl (hK29 _ _ _ _ _ _ hF)
    · replace hF := (if_pos c).symm.trans hF
      refine V.iconst (v := 0) dX6_isRest_95 rfl ?_
      cases hF
      exact V.bret dX6_isRest_96
def X6_isRest_58 (n : Nat) (K29 : Int32 → Int32 → Int32 → Int32 → Int32 → Int32 → Mm → Option Bool) (x1 : Int32) (x2 : Int32) (x3 : Int32) (x4 : Int32) (x5 : Int32) (x6 : Int32) (s0 : Bool) (h : Mm) : Option Bool := (bp (X6_isEnough x1 x6 h) (fun r77 => (bp (X6_gain r77 x6 x1 h) (fun r79 => (if r79 ≤ x5 then (X6_isRest_83 n K29 x1 x2 x3 x4 x5 x6 s0 false h) else (X6_isRest_83 n K29 x1 x2 x3 x4 x5 x6 s0 true h))))))
set_option maxRecDepth 100000 in
set_option maxHeartbeats 4000000 in
theorem v_X6_isRest_58 {X : WX} {G : GX} {o : Mm} {n : Nat} {K29 : Int32 → Int32 → Int32 → Int32 → Int32 → Int32 → Mm → Option Bool} {rv : Bool} {h : Mm} (hK29 : ∀ (x1 : Int32) (x2 : Int32) (x3 : Int32) (x4 : Int32) (x5 : Int32) (x6 : Int32), K29 x1 x2 x3 x4 x5 x6 h = some rv → V X G RX6 cX6_isRest 9 (some .boolean) 3 0 0 (QR X G true o (some (.int (b2i rv))) h) true o 29 [(0, .ref (xa X 246)), (1, .int x1), (2, .int x2), (3, .int x3), (4, .int x4), (5, .int x5), (6, .int x6)] [] h) {x1 : Int32} {x2 : Int32} {x3 : Int32} {x4 : Int32} {x5 : Int32} {x6 : Int32} {s0 : Bool} (hF : X6_isRest_58 n K29 x1 x2 x3 x4 x5 x6 s0 h = some rv) : V X G RX6 cX6_isRest 9 (some .boolean) 3 0 0 (QR X G true o (some (.int (b2i rv))) h) true o 58 [(0, .ref (xa X 246)), (1, .int x1), (2, .int x2), (3, .int x3), (4, .int x4), (5, .int x5), (6, .int x6)] [.int (b2i s0)] h := by
  unfold X6_isRest_58 at hF
  refine V.istore [(7, _), (0, _), (1, _), (2, _), (3, _), (4, _), (5, _), (6, _)] dX6_isRest_58 (by decide) rfl ?_
  refine V.aload_n 1 dX6_isRest_60 rfl rfl ?_
  refine V.iload_n 2 dX6_isRest_61 rfl rfl ?_
  refine V.iload 7 dX6_isRest_62 rfl ?_
  obtain ⟨r77, hc78, hF⟩ := bp_s hF
  refine V.callVi mf_X6_isEnough ml_X6_170 sh_246 (s_X6_isEnough hc78) (by decide) rfl rfl (Nat.le_of_ble_eq_true rfl) dX6_isRest_64 ?_
  refine V.iload 7 dX6_isRest_67 rfl ?_
  refine V.iload_n 2 dX6_isRest_69 rfl rfl ?_
  obtain ⟨r79, hc80, hF⟩ := bp_s hF
  refine V.callSi mf_X6_gain ml_X6_174 (s_X6_gain hc80) (by decide) rfl rfl (Nat.le_of_ble_eq_true rfl) dX6_isRest_70 ?_
  refine V.iload 6 dX6_isRest_73 rfl ?_
  refine V.icmp_le (tgt := 82) dX6_isRest_75 rfl (fun c => ?_) (fun c => ?_)
  · replace hF := (if_pos c).symm.trans hF
    refine V.iconst (v := 0) dX6_isRest_82 rfl ?_
    exact V.sub [1, 2, 3, 4, 5, 6, 7, 0] rfl (v_X6_isRest_83 hK29 hF)
  · replace hF := (if_neg c).symm.trans hF
    refine V.iconst (v := 1) dX6_isRest_78 rfl ?_
    refine V.goto (tgt := 83) dX6_isRest_79 rfl ?_
    exact V.sub [1, 2, 3, 4, 5, 6, 7, 0] rfl (v_X6_isRest_83 hK29 hF)
def X6_isRest_29 (n : Nat) : Nat → Int32 → Int32 → Int32 → Int32 → Int32 → Int32 → Mm → Option Bool
  | 0, _, _, _, _, _, _, _ => none
  | f + 1, x1, x2, x3, x4, x5, x6, h => (if x3 < x6 then (some true) else (bp (X6_isEnough x6 x2 h) (fun r81 => (bp (X6_gain r81 x6 x2 h) (fun r83 => (if r83 ≤ x4 then (X6_isRest_58 n (X6_isRest_29 n f) x1 x2 x3 x4 x5 x6 false h) else (X6_isRest_58 n (X6_isRest_29 n f) x1 x2 x3 x4 x5 x6 true h)))))))
set_option maxRecDepth 100000 in
set_option maxHeartbeats 4000000 in
theorem v_X6_isRest_29 {X : WX} {G : GX} {o : Mm} {n : Nat} {rv : Bool} {h : Mm} : ∀ (f : Nat) (x1 : Int32) (x2 : Int32) (x3 : Int32) (x4 : Int32) (x5 : Int32) (x6 : Int32), X6_isRest_29 n f x1 x2 x3 x4 x5 x6 h = some rv → V X G RX6 cX6_isRest 9 (some .boolean) 3 0 0 (QR X G true o (some (.int (b2i rv))) h) true o 29 [(0, .ref (xa X 246)), (1, .int x1), (2, .int x2), (3, .int x3), (4, .int x4), (5, .int x5), (6, .int x6)] [] h := by
  intro f
  induction f with
  | zero => intro x1 x2 x3 x4 x5 x6 hF; exact nomatch (show (none : Option Bool) = some rv from hF)
  | succ f ih =>
    intro x1 x2 x3 x4 x5 x6 hF
    unfold X6_isRest_29 at hF
    refine V.iload 6 dX6_isRest_29 rfl ?_
    refine V.iload_n 3 dX6_isRest_31 rfl rfl ?_
    refine V.icmp_gt (tgt := 103) dX6_isRest_32 rfl (fun c => ?_) (fun c => ?_)
    · replace hF := (if_pos c).symm.trans hF
      refine V.iconst (v := 1) dX6_isRest_103 rfl ?_
      cases hF
      exact V.bret dX6_isRest_104
    · replace hF := (if_neg c).symm.trans hF
      refine V.aload_n 0 dX6_isRest_35 rfl rfl ?_
      refine V.iload 6 dX6_isRest_36 rfl ?_
      refine V.iload_n 2 dX6_isRest_38 rfl rfl ?_
      obtain ⟨r81, hc82, hF⟩ := bp_s hF
      refine V.callVi mf_X6_isEnough ml_X6_170 sh_246 (s_X6_isEnough hc82) (by decide) rfl rfl (Nat.le_of_ble_eq_true rfl) dX6_isRest_39 ?_
      refine V.iload 6 dX6_isRest_42 rfl ?_
      refine V.iload_n 2 dX6_isRest_44 rfl rfl ?_
      obtain ⟨r83, hc84, hF⟩ := bp_s hF
      refine V.callSi mf_X6_gain ml_X6_174 (s_X6_gain hc84) (by decide) rfl rfl (Nat.le_of_ble_eq_true rfl) dX6_isRest_45 ?_
      refine V.iload 4 dX6_isRest_48 rfl ?_
      refine V.icmp_le (tgt := 57) dX6_isRest_50 rfl (fun c => ?_) (fun c => ?_)
      · replace hF := (if_pos c).symm.trans hF
        refine V.iconst (v := 0) dX6_isRest_57 rfl ?_
        exact (v_X6_isRest_58 ih hF)
      · replace hF := (if_neg c).symm.trans hF
        refine V.iconst (v := 1) dX6_isRest_53 rfl ?_
        refine V.goto (tgt := 58) dX6_isRest_54 rfl ?_
        exact (v_X6_isRest_58 ih hF)
def X6_isRest (n : Nat) (x1 : Int32) (x2 : Int32) (x3 : Int32) (h : Mm) : Option Bool := (bp (X6_isEnough x1 x2 h) (fun r85 => (bp (X6_gain r85 x1 x2 h) (fun r87 => (bp (X6_isEnough x1 x2 h) (fun r89 => (bp (X6_gain r89 x2 x1 h) (fun r91 => (X6_isRest_29 n n x1 x2 x3 r87 r91 (0) h)))))))))
set_option maxRecDepth 100000 in
set_option maxHeartbeats 4000000 in
theorem s_X6_isRest {X : WX} {o : Mm} {n : Nat} {x1 : Int32} {x2 : Int32} {x3 : Int32} {rv : Bool} {h : Mm} (hF : X6_isRest n x1 x2 x3 h = some rv) : Sat X yX6_isRest cX6_isRest 9 (some .boolean) 3 [.ref (xa X 246), .int x1, .int x2, .int x3] true o h (some (.int (b2i rv))) h := by
  unfold X6_isRest at hF
  refine Sat.mk (own := RX6) rfl (by decide +kernel) (Nat.le_of_ble_eq_true rfl) (fun G => ?_)
  refine V.sub (lv2 := [(0, _), (1, _), (2, _), (3, _)]) [0, 1, 2, 3] rfl ?_
  refine V.aload_n 0 dX6_isRest_0 rfl rfl ?_
  refine V.iload_n 1 dX6_isRest_1 rfl rfl ?_
  refine V.iload_n 2 dX6_isRest_2 rfl rfl ?_
  obtain ⟨r85, hc86, hF⟩ := bp_s hF
  refine V.callVi mf_X6_isEnough ml_X6_170 sh_246 (s_X6_isEnough hc86) (by decide) rfl rfl (Nat.le_of_ble_eq_true rfl) dX6_isRest_3 ?_
  refine V.iload_n 1 dX6_isRest_6 rfl rfl ?_
  refine V.iload_n 2 dX6_isRest_7 rfl rfl ?_
  obtain ⟨r87, hc88, hF⟩ := bp_s hF
  refine V.callSi mf_X6_gain ml_X6_174 (s_X6_gain hc88) (by decide) rfl rfl (Nat.le_of_ble_eq_true rfl) dX6_isRest_8 ?_
  refine V.istore [(4, _), (0, _), (1, _), (2, _), (3, _)] dX6_isRest_11 (by decide) rfl ?_
  refine V.aload_n 1 dX6_isRest_13 rfl rfl ?_
  refine V.iload_n 2 dX6_isRest_14 rfl rfl ?_
  refine V.iload_n 3 dX6_isRest_15 rfl rfl ?_
  obtain ⟨r89, hc90, hF⟩ := bp_s hF
  refine V.callVi mf_X6_isEnough ml_X6_170 sh_246 (s_X6_isEnough hc90) (by decide) rfl rfl (Nat.le_of_ble_eq_true rfl) dX6_isRest_16 ?_
  refine V.iload_n 3 dX6_isRest_19 rfl rfl ?_
  refine V.iload_n 2 dX6_isRest_20 rfl rfl ?_
  obtain ⟨r91, hc92, hF⟩ := bp_s hF
  refine V.callSi mf_X6_gain ml_X6_174 (s_X6_gain hc92) (by decide) rfl rfl (Nat.le_of_ble_eq_true rfl) dX6_isRest_21 ?_
  refine V.istore [(5, _), (4, _), (0, _), (1, _), (2, _), (3, _)] dX6_isRest_24 (by decide) rfl ?_
  refine V.iconst (v := 0) dX6_isRest_26 rfl ?_
  refine V.istore [(6, _), (5, _), (4, _), (0, _), (1, _), (2, _), (3, _)] dX6_isRest_27 (by decide) rfl ?_
  exact V.sub [3, 4, 5, 6, 2, 1, 0] rfl (v_X6_isRest_29 n _ _ _ _ _ _ hF)
/-! MonsterCot$Search.restsOf -/
theorem dX6_restsOf_0 : decode cX6_restsOf 0 = .ok (.aload_n 0, 1) := by decide +kernel
theorem dX6_restsOf_1 : decode cX6_restsOf 1 = .ok (.getfield 28, 3) := by decide +kernel
theorem dX6_restsOf_4 : decode cX6_restsOf 4 = .ok (.iload_n 3, 1) := by decide +kernel
theorem dX6_restsOf_5 : decode cX6_restsOf 5 = .ok (.invokevirtual 95, 3) := by decide +kernel
theorem dX6_restsOf_8 : decode cX6_restsOf 8 = .ok (.istore 5, 2) := by decide +kernel
theorem dX6_restsOf_10 : decode cX6_restsOf 10 = .ok (.iconst 0, 1) := by decide +kernel
theorem dX6_restsOf_11 : decode cX6_restsOf 11 = .ok (.istore 6, 2) := by decide +kernel
theorem dX6_restsOf_13 : decode cX6_restsOf 13 = .ok (.iload 6, 2) := by decide +kernel
theorem dX6_restsOf_15 : decode cX6_restsOf 15 = .ok (.iload 5, 2) := by decide +kernel
theorem dX6_restsOf_17 : decode cX6_restsOf 17 = .ok (.if_icmp .gt 59, 3) := by decide +kernel
theorem dX6_restsOf_20 : decode cX6_restsOf 20 = .ok (.iconst 0, 1) := by decide +kernel
theorem dX6_restsOf_21 : decode cX6_restsOf 21 = .ok (.istore 7, 2) := by decide +kernel
theorem dX6_restsOf_23 : decode cX6_restsOf 23 = .ok (.iload 7, 2) := by decide +kernel
theorem dX6_restsOf_25 : decode cX6_restsOf 25 = .ok (.iload 5, 2) := by decide +kernel
theorem dX6_restsOf_27 : decode cX6_restsOf 27 = .ok (.if_icmp .gt 43, 3) := by decide +kernel
theorem dX6_restsOf_30 : decode cX6_restsOf 30 = .ok (.aload_n 0, 1) := by decide +kernel
theorem dX6_restsOf_31 : decode cX6_restsOf 31 = .ok (.getfield 15, 3) := by decide +kernel
theorem dX6_restsOf_34 : decode cX6_restsOf 34 = .ok (.iload 6, 2) := by decide +kernel
theorem dX6_restsOf_36 : decode cX6_restsOf 36 = .ok (.bipush 10, 2) := by decide +kernel
theorem dX6_restsOf_38 : decode cX6_restsOf 38 = .ok (.imul, 1) := by decide +kernel
theorem dX6_restsOf_39 : decode cX6_restsOf 39 = .ok (.iload 7, 2) := by decide +kernel
theorem dX6_restsOf_41 : decode cX6_restsOf 41 = .ok (.iadd, 1) := by decide +kernel
theorem dX6_restsOf_42 : decode cX6_restsOf 42 = .ok (.aload_n 0, 1) := by decide +kernel
theorem dX6_restsOf_43 : decode cX6_restsOf 43 = .ok (.iload_n 1, 1) := by decide +kernel
theorem dX6_restsOf_44 : decode cX6_restsOf 44 = .ok (.iload_n 2, 1) := by decide +kernel
theorem dX6_restsOf_45 : decode cX6_restsOf 45 = .ok (.iload_n 3, 1) := by decide +kernel
theorem dX6_restsOf_46 : decode cX6_restsOf 46 = .ok (.iload 6, 2) := by decide +kernel
theorem dX6_restsOf_48 : decode cX6_restsOf 48 = .ok (.iload 7, 2) := by decide +kernel
theorem dX6_restsOf_50 : decode cX6_restsOf 50 = .ok (.invokevirtual 162, 3) := by decide +kernel
theorem dX6_restsOf_53 : decode cX6_restsOf 53 = .ok (.ifCond .eq 7, 3) := by decide +kernel
theorem dX6_restsOf_56 : decode cX6_restsOf 56 = .ok (.iconst 1, 1) := by decide +kernel
theorem dX6_restsOf_57 : decode cX6_restsOf 57 = .ok (.goto 4, 3) := by decide +kernel
theorem dX6_restsOf_60 : decode cX6_restsOf 60 = .ok (.iconst 0, 1) := by decide +kernel
theorem dX6_restsOf_61 : decode cX6_restsOf 61 = .ok (.invokestatic 126, 3) := by decide +kernel
theorem dX6_restsOf_64 : decode cX6_restsOf 64 = .ok (.iinc 7 1, 3) := by decide +kernel
theorem dX6_restsOf_67 : decode cX6_restsOf 67 = .ok (.goto (-44), 3) := by decide +kernel
theorem dX6_restsOf_70 : decode cX6_restsOf 70 = .ok (.iinc 6 1, 3) := by decide +kernel
theorem dX6_restsOf_73 : decode cX6_restsOf 73 = .ok (.goto (-60), 3) := by decide +kernel
theorem dX6_restsOf_76 : decode cX6_restsOf 76 = .ok (.iconst 0, 1) := by decide +kernel
theorem dX6_restsOf_77 : decode cX6_restsOf 77 = .ok (.istore 6, 2) := by decide +kernel
theorem dX6_restsOf_79 : decode cX6_restsOf 79 = .ok (.iconst 0, 1) := by decide +kernel
theorem dX6_restsOf_80 : decode cX6_restsOf 80 = .ok (.istore 7, 2) := by decide +kernel
theorem dX6_restsOf_82 : decode cX6_restsOf 82 = .ok (.iload 7, 2) := by decide +kernel
theorem dX6_restsOf_84 : decode cX6_restsOf 84 = .ok (.iload 5, 2) := by decide +kernel
theorem dX6_restsOf_86 : decode cX6_restsOf 86 = .ok (.if_icmp .gt 57, 3) := by decide +kernel
theorem dX6_restsOf_89 : decode cX6_restsOf 89 = .ok (.iconst 0, 1) := by decide +kernel
theorem dX6_restsOf_90 : decode cX6_restsOf 90 = .ok (.istore 8, 2) := by decide +kernel
theorem dX6_restsOf_92 : decode cX6_restsOf 92 = .ok (.iload 8, 2) := by decide +kernel
theorem dX6_restsOf_94 : decode cX6_restsOf 94 = .ok (.iload 5, 2) := by decide +kernel
theorem dX6_restsOf_96 : decode cX6_restsOf 96 = .ok (.if_icmp .gt 41, 3) := by decide +kernel
theorem dX6_restsOf_99 : decode cX6_restsOf 99 = .ok (.aload_n 0, 1) := by decide +kernel
theorem dX6_restsOf_100 : decode cX6_restsOf 100 = .ok (.iload 7, 2) := by decide +kernel
theorem dX6_restsOf_102 : decode cX6_restsOf 102 = .ok (.iload 8, 2) := by decide +kernel
theorem dX6_restsOf_104 : decode cX6_restsOf 104 = .ok (.iload 5, 2) := by decide +kernel
theorem dX6_restsOf_106 : decode cX6_restsOf 106 = .ok (.invokevirtual 166, 3) := by decide +kernel
theorem dX6_restsOf_109 : decode cX6_restsOf 109 = .ok (.ifCond .eq 22, 3) := by decide +kernel
theorem dX6_restsOf_112 : decode cX6_restsOf 112 = .ok (.iload 6, 2) := by decide +kernel
theorem dX6_restsOf_114 : decode cX6_restsOf 114 = .ok (.iload 4, 2) := by decide +kernel
theorem dX6_restsOf_116 : decode cX6_restsOf 116 = .ok (.if_icmp .ne 12, 3) := by decide +kernel
theorem dX6_restsOf_119 : decode cX6_restsOf 119 = .ok (.iload 7, 2) := by decide +kernel
theorem dX6_restsOf_121 : decode cX6_restsOf 121 = .ok (.bipush 10, 2) := by decide +kernel
theorem dX6_restsOf_123 : decode cX6_restsOf 123 = .ok (.imul, 1) := by decide +kernel
theorem dX6_restsOf_124 : decode cX6_restsOf 124 = .ok (.iload 8, 2) := by decide +kernel
theorem dX6_restsOf_126 : decode cX6_restsOf 126 = .ok (.iadd, 1) := by decide +kernel
theorem dX6_restsOf_127 : decode cX6_restsOf 127 = .ok (.ireturn, 1) := by decide +kernel
theorem dX6_restsOf_128 : decode cX6_restsOf 128 = .ok (.iinc 6 1, 3) := by decide +kernel
theorem dX6_restsOf_131 : decode cX6_restsOf 131 = .ok (.iinc 8 1, 3) := by decide +kernel
theorem dX6_restsOf_134 : decode cX6_restsOf 134 = .ok (.goto (-42), 3) := by decide +kernel
theorem dX6_restsOf_137 : decode cX6_restsOf 137 = .ok (.iinc 7 1, 3) := by decide +kernel
theorem dX6_restsOf_140 : decode cX6_restsOf 140 = .ok (.goto (-58), 3) := by decide +kernel
theorem dX6_restsOf_143 : decode cX6_restsOf 143 = .ok (.iload 4, 2) := by decide +kernel
theorem dX6_restsOf_145 : decode cX6_restsOf 145 = .ok (.iconst (-1), 1) := by decide +kernel
theorem dX6_restsOf_146 : decode cX6_restsOf 146 = .ok (.if_icmp .ne 8, 3) := by decide +kernel
theorem dX6_restsOf_149 : decode cX6_restsOf 149 = .ok (.iload 6, 2) := by decide +kernel
theorem dX6_restsOf_151 : decode cX6_restsOf 151 = .ok (.goto 4, 3) := by decide +kernel
theorem dX6_restsOf_154 : decode cX6_restsOf 154 = .ok (.iconst (-1), 1) := by decide +kernel
theorem dX6_restsOf_155 : decode cX6_restsOf 155 = .ok (.ireturn, 1) := by decide +kernel
def X6_restsOf_61 (n : Nat) (K13 : Int32 → Int32 → Int32 → Int32 → Int32 → Int32 → Mm → Option (Int32 × Mm)) (K23 : Int32 → Int32 → Int32 → Int32 → Int32 → Int32 → Int32 → Mm → Option (Int32 × Mm)) (x1 : Int32) (x2 : Int32) (x3 : Int32) (x4 : Int32) (x5 : Int32) (x6 : Int32) (x7 : Int32) (s1 : Int32) (s2 : Bool) (h : Mm) : Option (Int32 × Mm) := (bd (X11_put 248 s1 (b2i s2) h) (fun _ h50 => (K23 x1 x2 x3 x4 x5 x6 (x7 + (1)) h50)))
set_option maxRecDepth 100000 in
set_option maxHeartbeats 4000000 in
theorem v_X6_restsOf_61 {X : WX} {G : GX} {o : Mm} {n : Nat} {K13 : Int32 → Int32 → Int32 → Int32 → Int32 → Int32 → Mm → Option (Int32 × Mm)} {K23 : Int32 → Int32 → Int32 → Int32 → Int32 → Int32 → Int32 → Mm → Option (Int32 × Mm)} {rv : Int32} {hz : Mm} (hK13 : ∀ (x1 : Int32) (x2 : Int32) (x3 : Int32) (x4 : Int32) (x5 : Int32) (x6 : Int32) (h : Mm), K13 x1 x2 x3 x4 x5 x6 h = some (rv, hz) → V X G RX6 cX6_restsOf 9 (some .int) 6 0 0 (QR X G true o (some (.int rv)) hz) true o 13 [(0, .ref (xa X 246)), (1, .int x1), (2, .int x2), (3, .int x3), (4, .int x4), (5, .int x5), (6, .int x6)] [] h) (hK23 : ∀ (x1 : Int32) (x2 : Int32) (x3 : Int32) (x4 : Int32) (x5 : Int32) (x6 : Int32) (x7 : Int32) (h : Mm), K23 x1 x2 x3 x4 x5 x6 x7 h = some (rv, hz) → V X G RX6 cX6_restsOf 9 (some .int) 6 0 0 (QR X G true o (some (.int rv)) hz) true o 23 [(0, .ref (xa X 246)), (1, .int x1), (2, .int x2), (3, .int x3), (4, .int x4), (5, .int x5), (6, .int x6), (7, .int x7)] [] h) {x1 : Int32} {x2 : Int32} {x3 : Int32} {x4 : Int32} {x5 : Int32} {x6 : Int32} {x7 : Int32} {s1 : Int32} {s2 : Bool} {h : Mm} (hF : X6_restsOf_61 n K13 K23 x1 x2 x3 x4 x5 x6 x7 s1 s2 h = some (rv, hz)) : V X G RX6 cX6_restsOf 9 (some .int) 6 0 0 (QR X G true o (some (.int rv)) hz) true o 61 [(0, .ref (xa X 246)), (1, .int x1), (2, .int x2), (3, .int x3), (4, .int x4), (5, .int x5), (6, .int x6), (7, .int x7)] [.int (b2i s2), .int s1, .ref (xa X 248)] h := by
  unfold X6_restsOf_61 at hF
  obtain ⟨r48, h50, hc49, hF⟩ := bd_s hF
  refine V.callNv mf_X11_put ml_X6_126 (s_X11_put io_248 hc49) (by decide) rfl rfl (Nat.le_of_ble_eq_true rfl) dX6_restsOf_61 ?_
  refine V.iinc (v := (x7 + (1))) 7 [(7, _), (0, _), (1, _), (2, _), (3, _), (4, _), (5, _), (6, _)] dX6_restsOf_64 rfl rfl (by decide) rfl ?_
  refine V.goto (tgt := 23) dX6_restsOf_67 rfl ?_
  exact V.sub [1, 2, 3, 4, 5, 6, 7, 0] rfl (hK23 _ _ _ _ _ _ _ _ hF)
def X6_restsOf_23 (n : Nat) (K13 : Int32 → Int32 → Int32 → Int32 → Int32 → Int32 → Mm → Option (Int32 × Mm)) : Nat → Int32 → Int32 → Int32 → Int32 → Int32 → Int32 → Int32 → Mm → Option (Int32 × Mm)
  | 0, _, _, _, _, _, _, _, _ => none
  | f + 1, x1, x2, x3, x4, x5, x6, x7, h => (if x5 < x7 then (K13 x1 x2 x3 x4 x5 (x6 + (1)) h) else (bd (X6_enoughBehind n x1 x2 x3 x6 x7 h) (fun r51 h53 => (if r51 = true then (X6_restsOf_61 n K13 (X6_restsOf_23 n K13 f) x1 x2 x3 x4 x5 x6 x7 ((x6 * (10)) + x7) true h53) else (X6_restsOf_61 n K13 (X6_restsOf_23 n K13 f) x1 x2 x3 x4 x5 x6 x7 ((x6 * (10)) + x7) false h53)))))
set_option maxRecDepth 100000 in
set_option maxHeartbeats 4000000 in
theorem v_X6_restsOf_23 {X : WX} {G : GX} {o : Mm} {n : Nat} {K13 : Int32 → Int32 → Int32 → Int32 → Int32 → Int32 → Mm → Option (Int32 × Mm)} {rv : Int32} {hz : Mm} (hK13 : ∀ (x1 : Int32) (x2 : Int32) (x3 : Int32) (x4 : Int32) (x5 : Int32) (x6 : Int32) (h : Mm), K13 x1 x2 x3 x4 x5 x6 h = some (rv, hz) → V X G RX6 cX6_restsOf 9 (some .int) 6 0 0 (QR X G true o (some (.int rv)) hz) true o 13 [(0, .ref (xa X 246)), (1, .int x1), (2, .int x2), (3, .int x3), (4, .int x4), (5, .int x5), (6, .int x6)] [] h) : ∀ (f : Nat) (x1 : Int32) (x2 : Int32) (x3 : Int32) (x4 : Int32) (x5 : Int32) (x6 : Int32) (x7 : Int32) (h : Mm), X6_restsOf_23 n K13 f x1 x2 x3 x4 x5 x6 x7 h = some (rv, hz) → V X G RX6 cX6_restsOf 9 (some .int) 6 0 0 (QR X G true o (some (.int rv)) hz) true o 23 [(0, .ref (xa X 246)), (1, .int x1), (2, .int x2), (3, .int x3), (4, .int x4), (5, .int x5), (6, .int x6), (7, .int x7)] [] h := by
  intro f
  induction f with
  | zero => intro x1 x2 x3 x4 x5 x6 x7 h hF; exact nomatch (show (none : Option (Int32 × Mm)) = some (rv, hz) from hF)
  | succ f ih =>
    intro x1 x2 x3 x4 x5 x6 x7 h hF
    unfold X6_restsOf_23 at hF
    refine V.iload 7 dX6_restsOf_23 rfl ?_
    refine V.iload 5 dX6_restsOf_25 rfl ?_
    refine V.icmp_gt (tgt := 70) dX6_restsOf_27 rfl (fun c => ?_) (fun c => ?_)
    · replace hF := (if_pos c).symm.trans hF
      refine V.iinc (v := (x6 + (1))) 6 [(6, _), (0, _), (1, _), (2, _), (3, _), (4, _), (5, _), (7, _)] dX6_restsOf_70 rfl rfl (by decide) rfl ?_
      refine V.goto (tgt := 13) dX6_restsOf_73 rfl ?_
      exact V.sub [1, 2, 3, 4, 5, 6, 0] rfl (hK13 _ _ _ _ _ _ _ hF)
    · replace hF := (if_neg c).symm.trans hF
      refine V.aload_n 0 dX6_restsOf_30 rfl rfl ?_
      refine V.getR (v := 248) fl_X6_15 sh_246 rfl fx_246_5 (by decide) dX6_restsOf_31 ?_
      refine V.iload 6 dX6_restsOf_34 rfl ?_
      refine V.bipush (v := 10) dX6_restsOf_36 (by decide) ?_
      refine V.imul dX6_restsOf_38 ?_
      refine V.iload 7 dX6_restsOf_39 rfl ?_
      refine V.iadd dX6_restsOf_41 ?_
      refine V.aload_n 0 dX6_restsOf_42 rfl rfl ?_
      refine V.iload_n 1 dX6_restsOf_43 rfl rfl ?_
      refine V.iload_n 2 dX6_restsOf_44 rfl rfl ?_
      refine V.iload_n 3 dX6_restsOf_45 rfl rfl ?_
      refine V.iload 6 dX6_restsOf_46 rfl ?_
      refine V.iload 7 dX6_restsOf_48 rfl ?_
      obtain ⟨r51, h53, hc52, hF⟩ := bd_s hF
      refine V.callVi mf_X6_enoughBehind ml_X6_162 sh_246 (s_X6_enoughBehind hc52) (by decide) rfl rfl (Nat.le_of_ble_eq_true rfl) dX6_restsOf_50 ?_
      refine V.ifz_eq (tgt := 60) dX6_restsOf_53 rfl (fun c => ?_) (fun c => ?_)
      · replace hF := (if_neg c).symm.trans hF
        refine V.iconst (v := 0) dX6_restsOf_60 rfl ?_
        exact (v_X6_restsOf_61 hK13 ih hF)
      · replace hF := (if_pos c).symm.trans hF
        refine V.iconst (v := 1) dX6_restsOf_56 rfl ?_
        refine V.goto (tgt := 61) dX6_restsOf_57 rfl ?_
        exact (v_X6_restsOf_61 hK13 ih hF)
def X6_restsOf_131 (n : Nat) (K82 : Int32 → Int32 → Int32 → Int32 → Mm → Option (Int32 × Mm)) (K92 : Int32 → Int32 → Int32 → Int32 → Int32 → Mm → Option (Int32 × Mm)) (x4 : Int32) (x5 : Int32) (x6 : Int32) (x7 : Int32) (x8 : Int32) (h : Mm) : Option (Int32 × Mm) := (K92 x4 x5 x6 x7 (x8 + (1)) h)
set_option maxRecDepth 100000 in
set_option maxHeartbeats 4000000 in
theorem v_X6_restsOf_131 {X : WX} {G : GX} {o : Mm} {n : Nat} {K82 : Int32 → Int32 → Int32 → Int32 → Mm → Option (Int32 × Mm)} {K92 : Int32 → Int32 → Int32 → Int32 → Int32 → Mm → Option (Int32 × Mm)} {rv : Int32} {hz : Mm} (hK82 : ∀ (x4 : Int32) (x5 : Int32) (x6 : Int32) (x7 : Int32) (h : Mm), K82 x4 x5 x6 x7 h = some (rv, hz) → V X G RX6 cX6_restsOf 9 (some .int) 6 0 0 (QR X G true o (some (.int rv)) hz) true o 82 [(0, .ref (xa X 246)), (4, .int x4), (5, .int x5), (6, .int x6), (7, .int x7)] [] h) (hK92 : ∀ (x4 : Int32) (x5 : Int32) (x6 : Int32) (x7 : Int32) (x8 : Int32) (h : Mm), K92 x4 x5 x6 x7 x8 h = some (rv, hz) → V X G RX6 cX6_restsOf 9 (some .int) 6 0 0 (QR X G true o (some (.int rv)) hz) true o 92 [(0, .ref (xa X 246)), (4, .int x4), (5, .int x5), (6, .int x6), (7, .int x7), (8, .int x8)] [] h) {x4 : Int32} {x5 : Int32} {x6 : Int32} {x7 : Int32} {x8 : Int32} {h : Mm} (hF : X6_restsOf_131 n K82 K92 x4 x5 x6 x7 x8 h = some (rv, hz)) : V X G RX6 cX6_restsOf 9 (some .int) 6 0 0 (QR X G true o (some (.int rv)) hz) true o 131 [(0, .ref (xa X 246)), (4, .int x4), (5, .int x5), (6, .int x6), (7, .int x7), (8, .int x8)] [] h := by
  unfold X6_restsOf_131 at hF
  refine V.iinc (v := (x8 + (1))) 5 [(8, _), (0, _), (4, _), (5, _), (6, _), (7, _)] dX6_restsOf_131 rfl rfl (by decide) rfl ?_
  refine V.goto (tgt := 92) dX6_restsOf_134 rfl ?_
  exact V.sub [1, 2, 3, 4, 5, 0] rfl (hK92 _ _ _ _ _ _ hF)
def X6_restsOf_92 (n : Nat) (K82 : Int32 → Int32 → Int32 → Int32 → Mm → Option (Int32 × Mm)) : Nat → Int32 → Int32 → Int32 → Int32 → Int32 → Mm → Option (Int32 × Mm)
  | 0, _, _, _, _, _, _ => none
  | f + 1, x4, x5, x6, x7, x8, h => (if x5 < x8 then (K82 x4 x5 x6 (x7 + (1)) h) else (bp (X6_isRest n x7 x8 x5 h) (fun r54 => (if r54 = true then (if x6 = x4 then (some (((x7 * (10)) + x8), h)) else (X6_restsOf_131 n K82 (X6_restsOf_92 n K82 f) x4 x5 (x6 + (1)) x7 x8 h)) else (X6_restsOf_131 n K82 (X6_restsOf_92 n K82 f) x4 x5 x6 x7 x8 h)))))
set_option maxRecDepth 100000 in
set_option maxHeartbeats 4000000 in
theorem v_X6_restsOf_92 {X : WX} {G : GX} {o : Mm} {n : Nat} {K82 : Int32 → Int32 → Int32 → Int32 → Mm → Option (Int32 × Mm)} {rv : Int32} {hz : Mm} (hK82 : ∀ (x4 : Int32) (x5 : Int32) (x6 : Int32) (x7 : Int32) (h : Mm), K82 x4 x5 x6 x7 h = some (rv, hz) → V X G RX6 cX6_restsOf 9 (some .int) 6 0 0 (QR X G true o (some (.int rv)) hz) true o 82 [(0, .ref (xa X 246)), (4, .int x4), (5, .int x5), (6, .int x6), (7, .int x7)] [] h) : ∀ (f : Nat) (x4 : Int32) (x5 : Int32) (x6 : Int32) (x7 : Int32) (x8 : Int32) (h : Mm), X6_restsOf_92 n K82 f x4 x5 x6 x7 x8 h = some (rv, hz) → V X G RX6 cX6_restsOf 9 (some .int) 6 0 0 (QR X G true o (some (.int rv)) hz) true o 92 [(0, .ref (xa X 246)), (4, .int x4), (5, .int x5), (6, .int x6), (7, .int x7), (8, .int x8)] [] h := by
  intro f
  induction f with
  | zero => intro x4 x5 x6 x7 x8 h hF; exact nomatch (show (none : Option (Int32 × Mm)) = some (rv, hz) from hF)
  | succ f ih =>
    intro x4 x5 x6 x7 x8 h hF
    unfold X6_restsOf_92 at hF
    refine V.iload 5 dX6_restsOf_92 rfl ?_
    refine V.iload 2 dX6_restsOf_94 rfl ?_
    refine V.icmp_gt (tgt := 137) dX6_restsOf_96 rfl (fun c => ?_) (fun c => ?_)
    · replace hF := (if_pos c).symm.trans hF
      refine V.iinc (v := (x7 + (1))) 4 [(7, _), (0, _), (4, _), (5, _), (6, _), (8, _)] dX6_restsOf_137 rfl rfl (by decide) rfl ?_
      refine V.goto (tgt := 82) dX6_restsOf_140 rfl ?_
      exact V.sub [1, 2, 3, 4, 0] rfl (hK82 _ _ _ _ _ hF)
    · replace hF := (if_neg c).symm.trans hF
      refine V.aload_n 0 dX6_restsOf_99 rfl rfl ?_
      refine V.iload 4 dX6_restsOf_100 rfl ?_
      refine V.iload 5 dX6_restsOf_102 rfl ?_
      refine V.iload 2 dX6_restsOf_104 rfl ?_
      obtain ⟨r54, hc55, hF⟩ := bp_s hF
      refine V.callVi mf_X6_isRest ml_X6_166 sh_246 (s_X6_isRest hc55) (by decide) rfl rfl (Nat.le_of_ble_eq_true rfl) dX6_restsOf_106 ?_
      refine V.ifz_eq (tgt := 131) dX6_restsOf_109 rfl (fun c => ?_) (fun c => ?_)
      · replace hF := (if_neg c).symm.trans hF
        exact (v_X6_restsOf_131 hK82 ih hF)
      · replace hF := (if_pos c).symm.trans hF
        refine V.iload 3 dX6_restsOf_112 rfl ?_
        refine V.iload 1 dX6_restsOf_114 rfl ?_
        refine V.icmp_ne (tgt := 128) dX6_restsOf_116 rfl (fun c => ?_) (fun c => ?_)
        · replace hF := (if_neg c).symm.trans hF
          refine V.iinc (v := (x6 + (1))) 3 [(6, _), (0, _), (4, _), (5, _), (7, _), (8, _)] dX6_restsOf_128 rfl rfl (by decide) rfl ?_
          exact V.sub [1, 2, 3, 0, 4, 5] rfl (v_X6_restsOf_131 hK82 ih hF)
        · replace hF := (if_pos c).symm.trans hF
          refine V.iload 4 dX6_restsOf_119 rfl ?_
          refine V.bipush (v := 10) dX6_restsOf_121 (by decide) ?_
          refine V.imul dX6_restsOf_123 ?_
          refine V.iload 5 dX6_restsOf_124 rfl ?_
          refine V.iadd dX6_restsOf_126 ?_
          cases hF
          exact V.iret dX6_restsOf_127
def X6_restsOf_82 (n : Nat) : Nat → Int32 → Int32 → Int32 → Int32 → Mm → Option (Int32 × Mm)
  | 0, _, _, _, _, _ => none
  | f + 1, x4, x5, x6, x7, h => (if x5 < x7 then (if x4 = (-1) then (some (x6, h)) else (some ((-1), h))) else (X6_restsOf_92 n (X6_restsOf_82 n f) n x4 x5 x6 x7 (0) h))
set_option maxRecDepth 100000 in
set_option maxHeartbeats 4000000 in
theorem v_X6_restsOf_82 {X : WX} {G : GX} {o : Mm} {n : Nat} {rv : Int32} {hz : Mm} : ∀ (f : Nat) (x4 : Int32) (x5 : Int32) (x6 : Int32) (x7 : Int32) (h : Mm), X6_restsOf_82 n f x4 x5 x6 x7 h = some (rv, hz) → V X G RX6 cX6_restsOf 9 (some .int) 6 0 0 (QR X G true o (some (.int rv)) hz) true o 82 [(0, .ref (xa X 246)), (4, .int x4), (5, .int x5), (6, .int x6), (7, .int x7)] [] h := by
  intro f
  induction f with
  | zero => intro x4 x5 x6 x7 h hF; exact nomatch (show (none : Option (Int32 × Mm)) = some (rv, hz) from hF)
  | succ f ih =>
    intro x4 x5 x6 x7 h hF
    unfold X6_restsOf_82 at hF
    refine V.iload 4 dX6_restsOf_82 rfl ?_
    refine V.iload 2 dX6_restsOf_84 rfl ?_
    refine V.icmp_gt (tgt := 143) dX6_restsOf_86 rfl (fun c => ?_) (fun c => ?_)
    · replace hF := (if_pos c).symm.trans hF
      refine V.iload 1 dX6_restsOf_143 rfl ?_
      refine V.iconst (v := -1) dX6_restsOf_145 rfl ?_
      refine V.icmp_ne (tgt := 154) dX6_restsOf_146 rfl (fun c => ?_) (fun c => ?_)
      · replace hF := (if_neg c).symm.trans hF
        refine V.iconst (v := -1) dX6_restsOf_154 rfl ?_
        cases hF
        exact V.iret dX6_restsOf_155
      · replace hF := (if_pos c).symm.trans hF
        refine V.iload 3 dX6_restsOf_149 rfl ?_
        refine V.goto (tgt := 155) dX6_restsOf_151 rfl ?_
        cases hF
        exact V.iret dX6_restsOf_155
    · replace hF := (if_neg c).symm.trans hF
      refine V.iconst (v := 0) dX6_restsOf_89 rfl ?_
      refine V.istore [(8, _), (0, _), (4, _), (5, _), (6, _), (7, _)] dX6_restsOf_90 (by decide) rfl ?_
      exact V.sub [1, 2, 3, 4, 5, 0] rfl (v_X6_restsOf_92 ih n _ _ _ _ _ _ hF)
def X6_restsOf_13 (n : Nat) : Nat → Int32 → Int32 → Int32 → Int32 → Int32 → Int32 → Mm → Option (Int32 × Mm)
  | 0, _, _, _, _, _, _, _ => none
  | f + 1, x1, x2, x3, x4, x5, x6, h => (if x5 < x6 then (X6_restsOf_82 n n x4 x5 (0) (0) h) else (X6_restsOf_23 n (X6_restsOf_13 n f) n x1 x2 x3 x4 x5 x6 (0) h))
set_option maxRecDepth 100000 in
set_option maxHeartbeats 4000000 in
theorem v_X6_restsOf_13 {X : WX} {G : GX} {o : Mm} {n : Nat} {rv : Int32} {hz : Mm} : ∀ (f : Nat) (x1 : Int32) (x2 : Int32) (x3 : Int32) (x4 : Int32) (x5 : Int32) (x6 : Int32) (h : Mm), X6_restsOf_13 n f x1 x2 x3 x4 x5 x6 h = some (rv, hz) → V X G RX6 cX6_restsOf 9 (some .int) 6 0 0 (QR X G true o (some (.int rv)) hz) true o 13 [(0, .ref (xa X 246)), (1, .int x1), (2, .int x2), (3, .int x3), (4, .int x4), (5, .int x5), (6, .int x6)] [] h := by
  intro f
  induction f with
  | zero => intro x1 x2 x3 x4 x5 x6 h hF; exact nomatch (show (none : Option (Int32 × Mm)) = some (rv, hz) from hF)
  | succ f ih =>
    intro x1 x2 x3 x4 x5 x6 h hF
    unfold X6_restsOf_13 at hF
    refine V.iload 6 dX6_restsOf_13 rfl ?_
    refine V.iload 5 dX6_restsOf_15 rfl ?_
    refine V.icmp_gt (tgt := 76) dX6_restsOf_17 rfl (fun c => ?_) (fun c => ?_)
    · replace hF := (if_pos c).symm.trans hF
      refine V.iconst (v := 0) dX6_restsOf_76 rfl ?_
      refine V.istore [(6, _), (0, _), (1, _), (2, _), (3, _), (4, _), (5, _)] dX6_restsOf_77 (by decide) rfl ?_
      refine V.iconst (v := 0) dX6_restsOf_79 rfl ?_
      refine V.istore [(7, _), (6, _), (0, _), (1, _), (2, _), (3, _), (4, _), (5, _)] dX6_restsOf_80 (by decide) rfl ?_
      exact V.sub [2, 6, 7, 1, 0] rfl (v_X6_restsOf_82 n _ _ _ _ _ hF)
    · replace hF := (if_neg c).symm.trans hF
      refine V.iconst (v := 0) dX6_restsOf_20 rfl ?_
      refine V.istore [(7, _), (0, _), (1, _), (2, _), (3, _), (4, _), (5, _), (6, _)] dX6_restsOf_21 (by decide) rfl ?_
      exact V.sub [1, 2, 3, 4, 5, 6, 7, 0] rfl (v_X6_restsOf_23 ih n _ _ _ _ _ _ _ _ hF)
def X6_restsOf (n : Nat) (x1 : Int32) (x2 : Int32) (x3 : Int32) (x4 : Int32) (h : Mm) : Option (Int32 × Mm) := (bp (X1_pagesOf 13 x3 h) (fun r56 => (X6_restsOf_13 n n x1 x2 x3 x4 r56 (0) h)))
set_option maxRecDepth 100000 in
set_option maxHeartbeats 4000000 in
theorem s_X6_restsOf {X : WX} {o : Mm} {n : Nat} {x1 : Int32} {x2 : Int32} {x3 : Int32} {x4 : Int32} {rv : Int32} {hz : Mm} {h : Mm} (hF : X6_restsOf n x1 x2 x3 x4 h = some (rv, hz)) : Sat X yX6_restsOf cX6_restsOf 9 (some .int) 6 [.ref (xa X 246), .int x1, .int x2, .int x3, .int x4] true o h (some (.int rv)) hz := by
  unfold X6_restsOf at hF
  refine Sat.mk (own := RX6) rfl (by decide +kernel) (Nat.le_of_ble_eq_true rfl) (fun G => ?_)
  refine V.sub (lv2 := [(0, _), (1, _), (2, _), (3, _), (4, _)]) [0, 1, 2, 3, 4] rfl ?_
  refine V.aload_n 0 dX6_restsOf_0 rfl rfl ?_
  refine V.getR (v := 13) fl_X6_28 sh_246 rfl fx_246_1 (by decide) dX6_restsOf_1 ?_
  refine V.iload_n 3 dX6_restsOf_4 rfl rfl ?_
  obtain ⟨r56, hc57, hF⟩ := bp_s hF
  refine V.callVi mf_X1_pagesOf ml_X6_95 sh_13 (s_X1_pagesOf (Or.inr rfl) hc57) (by decide) rfl rfl (Nat.le_of_ble_eq_true rfl) dX6_restsOf_5 ?_
  refine V.istore [(5, _), (0, _), (1, _), (2, _), (3, _), (4, _)] dX6_restsOf_8 (by decide) rfl ?_
  refine V.iconst (v := 0) dX6_restsOf_10 rfl ?_
  refine V.istore [(6, _), (5, _), (0, _), (1, _), (2, _), (3, _), (4, _)] dX6_restsOf_11 (by decide) rfl ?_
  exact V.sub [2, 3, 4, 5, 6, 1, 0] rfl (v_X6_restsOf_13 n _ _ _ _ _ _ _ hF)
/-! MonsterCot.rests -/
theorem dX11_rests_0 : decode cX11_rests 0 = .ok (.aload_n 0, 1) := by decide +kernel
theorem dX11_rests_1 : decode cX11_rests 1 = .ok (.iload_n 1, 1) := by decide +kernel
theorem dX11_rests_2 : decode cX11_rests 2 = .ok (.iload_n 2, 1) := by decide +kernel
theorem dX11_rests_3 : decode cX11_rests 3 = .ok (.iload_n 3, 1) := by decide +kernel
theorem dX11_rests_4 : decode cX11_rests 4 = .ok (.invokevirtual 330, 3) := by decide +kernel
theorem dX11_rests_7 : decode cX11_rests 7 = .ok (.ifCond .eq 18, 3) := by decide +kernel
theorem dX11_rests_10 : decode cX11_rests 10 = .ok (.aload_n 0, 1) := by decide +kernel
theorem dX11_rests_11 : decode cX11_rests 11 = .ok (.getfield 84, 3) := by decide +kernel
theorem dX11_rests_14 : decode cX11_rests 14 = .ok (.iload_n 1, 1) := by decide +kernel
theorem dX11_rests_15 : decode cX11_rests 15 = .ok (.iload_n 2, 1) := by decide +kernel
theorem dX11_rests_16 : decode cX11_rests 16 = .ok (.iload_n 3, 1) := by decide +kernel
theorem dX11_rests_17 : decode cX11_rests 17 = .ok (.iload 4, 2) := by decide +kernel
theorem dX11_rests_19 : decode cX11_rests 19 = .ok (.invokevirtual 341, 3) := by decide +kernel
theorem dX11_rests_22 : decode cX11_rests 22 = .ok (.goto 4, 3) := by decide +kernel
theorem dX11_rests_25 : decode cX11_rests 25 = .ok (.iconst (-1), 1) := by decide +kernel
theorem dX11_rests_26 : decode cX11_rests 26 = .ok (.ireturn, 1) := by decide +kernel
def X11_rests (n : Nat) (x1 : Int32) (x2 : Int32) (x3 : Int32) (x4 : Int32) (h : Mm) : Option (Int32 × Mm) := (bp (X11_canPlay x1 x2 x3 h) (fun r6 => (if r6 = true then (bd (X6_restsOf n x1 x2 x3 x4 h) (fun r8 h10 => (some (r8, h10)))) else (some ((-1), h)))))
set_option maxRecDepth 100000 in
set_option maxHeartbeats 4000000 in
theorem s_X11_rests {X : WX} {o : Mm} {n : Nat} {x1 : Int32} {x2 : Int32} {x3 : Int32} {x4 : Int32} {rv : Int32} {hz : Mm} {h : Mm} (hF : X11_rests n x1 x2 x3 x4 h = some (rv, hz)) : Sat X yX11_rests cX11_rests 5 (some .int) 7 [.ref (xa X 0), .int x1, .int x2, .int x3, .int x4] true o h (some (.int rv)) hz := by
  unfold X11_rests at hF
  refine Sat.mk (own := RX11) rfl (by decide +kernel) (Nat.le_of_ble_eq_true rfl) (fun G => ?_)
  refine V.sub (lv2 := [(0, _), (1, _), (2, _), (3, _), (4, _)]) [0, 1, 2, 3, 4] rfl ?_
  refine V.aload_n 0 dX11_rests_0 rfl rfl ?_
  refine V.iload_n 1 dX11_rests_1 rfl rfl ?_
  refine V.iload_n 2 dX11_rests_2 rfl rfl ?_
  refine V.iload_n 3 dX11_rests_3 rfl rfl ?_
  obtain ⟨r6, hc7, hF⟩ := bp_s hF
  refine V.callVi mf_X11_canPlay ml_X11_330 sh_0 (s_X11_canPlay hc7) (by decide) rfl rfl (Nat.le_of_ble_eq_true rfl) dX11_rests_4 ?_
  refine V.ifz_eq (tgt := 25) dX11_rests_7 rfl (fun c => ?_) (fun c => ?_)
  · replace hF := (if_neg c).symm.trans hF
    refine V.iconst (v := -1) dX11_rests_25 rfl ?_
    cases hF
    exact V.iret dX11_rests_26
  · replace hF := (if_pos c).symm.trans hF
    refine V.aload_n 0 dX11_rests_10 rfl rfl ?_
    refine V.getR (v := 246) fl_X11_84 sh_0 rfl fx_0_10 (by decide) dX11_rests_11 ?_
    refine V.iload_n 1 dX11_rests_14 rfl rfl ?_
    refine V.iload_n 2 dX11_rests_15 rfl rfl ?_
    refine V.iload_n 3 dX11_rests_16 rfl rfl ?_
    refine V.iload 4 dX11_rests_17 rfl ?_
    obtain ⟨r8, h10, hc9, hF⟩ := bd_s hF
    refine V.callVi mf_X6_restsOf ml_X11_341 sh_246 (s_X6_restsOf hc9) (by decide) rfl rfl (Nat.le_of_ble_eq_true rfl) dX11_rests_19 ?_
    refine V.goto (tgt := 26) dX11_rests_22 rfl ?_
    cases hF
    exact V.iret dX11_rests_26
/-! MonsterCot.odds -/
theorem dX11_odds_0 : decode cX11_odds 0 = .ok (.aload_n 0, 1) := by decide +kernel
theorem dX11_odds_1 : decode cX11_odds 1 = .ok (.getfield 42, 3) := by decide +kernel
theorem dX11_odds_4 : decode cX11_odds 4 = .ok (.iload_n 1, 1) := by decide +kernel
theorem dX11_odds_5 : decode cX11_odds 5 = .ok (.invokevirtual 153, 3) := by decide +kernel
theorem dX11_odds_8 : decode cX11_odds 8 = .ok (.ifCond .eq 13, 3) := by decide +kernel
theorem dX11_odds_11 : decode cX11_odds 11 = .ok (.iload_n 2, 1) := by decide +kernel
theorem dX11_odds_12 : decode cX11_odds 12 = .ok (.ifCond .lt 9, 3) := by decide +kernel
theorem dX11_odds_15 : decode cX11_odds 15 = .ok (.iload_n 2, 1) := by decide +kernel
theorem dX11_odds_16 : decode cX11_odds 16 = .ok (.bipush 100, 2) := by decide +kernel
theorem dX11_odds_18 : decode cX11_odds 18 = .ok (.if_icmp .le 5, 3) := by decide +kernel
theorem dX11_odds_21 : decode cX11_odds 21 = .ok (.iconst (-1), 1) := by decide +kernel
theorem dX11_odds_22 : decode cX11_odds 22 = .ok (.ireturn, 1) := by decide +kernel
theorem dX11_odds_23 : decode cX11_odds 23 = .ok (.ldc_w 345, 3) := by decide +kernel
theorem dX11_odds_26 : decode cX11_odds 26 = .ok (.istore_n 3, 1) := by decide +kernel
theorem dX11_odds_27 : decode cX11_odds 27 = .ok (.iconst 0, 1) := by decide +kernel
theorem dX11_odds_28 : decode cX11_odds 28 = .ok (.istore 4, 2) := by decide +kernel
theorem dX11_odds_30 : decode cX11_odds 30 = .ok (.iload 4, 2) := by decide +kernel
theorem dX11_odds_32 : decode cX11_odds 32 = .ok (.aload_n 0, 1) := by decide +kernel
theorem dX11_odds_33 : decode cX11_odds 33 = .ok (.getfield 42, 3) := by decide +kernel
theorem dX11_odds_36 : decode cX11_odds 36 = .ok (.iload_n 1, 1) := by decide +kernel
theorem dX11_odds_37 : decode cX11_odds 37 = .ok (.invokevirtual 163, 3) := by decide +kernel
theorem dX11_odds_40 : decode cX11_odds 40 = .ok (.if_icmp .ge 18, 3) := by decide +kernel
theorem dX11_odds_43 : decode cX11_odds 43 = .ok (.iload_n 3, 1) := by decide +kernel
theorem dX11_odds_44 : decode cX11_odds 44 = .ok (.iload_n 3, 1) := by decide +kernel
theorem dX11_odds_45 : decode cX11_odds 45 = .ok (.iload_n 2, 1) := by decide +kernel
theorem dX11_odds_46 : decode cX11_odds 46 = .ok (.imul, 1) := by decide +kernel
theorem dX11_odds_47 : decode cX11_odds 47 = .ok (.bipush 100, 2) := by decide +kernel
theorem dX11_odds_49 : decode cX11_odds 49 = .ok (.idiv, 1) := by decide +kernel
theorem dX11_odds_50 : decode cX11_odds 50 = .ok (.isub, 1) := by decide +kernel
theorem dX11_odds_51 : decode cX11_odds 51 = .ok (.istore_n 3, 1) := by decide +kernel
theorem dX11_odds_52 : decode cX11_odds 52 = .ok (.iinc 4 1, 3) := by decide +kernel
theorem dX11_odds_55 : decode cX11_odds 55 = .ok (.goto (-25), 3) := by decide +kernel
theorem dX11_odds_58 : decode cX11_odds 58 = .ok (.iload_n 3, 1) := by decide +kernel
theorem dX11_odds_59 : decode cX11_odds 59 = .ok (.ireturn, 1) := by decide +kernel
def X11_odds_30 (n : Nat) : Nat → Int32 → Int32 → Int32 → Int32 → Mm → Option Int32
  | 0, _, _, _, _, _ => none
  | f + 1, x1, x2, x3, x4, h => (bp (X1_childrenOf 13 x1 h) (fun r9 => (if r9 ≤ x4 then (some x3) else ((X11_odds_30 n f) x1 x2 (x3 - ((x3 * x2) / (100))) (x4 + (1)) h))))
set_option maxRecDepth 100000 in
set_option maxHeartbeats 4000000 in
theorem v_X11_odds_30 {X : WX} {G : GX} {o : Mm} {n : Nat} {rv : Int32} {h : Mm} : ∀ (f : Nat) (x1 : Int32) (x2 : Int32) (x3 : Int32) (x4 : Int32), X11_odds_30 n f x1 x2 x3 x4 h = some rv → V X G RX11 cX11_odds 5 (some .int) 4 0 0 (QR X G true o (some (.int rv)) h) true o 30 [(0, .ref (xa X 0)), (1, .int x1), (2, .int x2), (3, .int x3), (4, .int x4)] [] h := by
  intro f
  induction f with
  | zero => intro x1 x2 x3 x4 hF; exact nomatch (show (none : Option Int32) = some rv from hF)
  | succ f ih =>
    intro x1 x2 x3 x4 hF
    unfold X11_odds_30 at hF
    refine V.iload 4 dX11_odds_30 rfl ?_
    refine V.aload_n 0 dX11_odds_32 rfl rfl ?_
    refine V.getR (v := 13) fl_X11_42 sh_0 rfl fx_0_4 (by decide) dX11_odds_33 ?_
    refine V.iload_n 1 dX11_odds_36 rfl rfl ?_
    obtain ⟨r9, hc10, hF⟩ := bp_s hF
    refine V.callVi mf_X1_childrenOf ml_X11_163 sh_13 (s_X1_childrenOf (Or.inr rfl) hc10) (by decide) rfl rfl (Nat.le_of_ble_eq_true rfl) dX11_odds_37 ?_
    refine V.icmp_ge (tgt := 58) dX11_odds_40 rfl (fun c => ?_) (fun c => ?_)
    · replace hF := (if_pos c).symm.trans hF
      refine V.iload_n 3 dX11_odds_58 rfl rfl ?_
      cases hF
      exact V.iret dX11_odds_59
    · replace hF := (if_neg c).symm.trans hF
      refine V.iload_n 3 dX11_odds_43 rfl rfl ?_
      refine V.iload_n 3 dX11_odds_44 rfl rfl ?_
      refine V.iload_n 2 dX11_odds_45 rfl rfl ?_
      refine V.imul dX11_odds_46 ?_
      refine V.bipush (v := 100) dX11_odds_47 (by decide) ?_
      refine V.idiv dX11_odds_49 (by decide) ?_
      refine V.isub dX11_odds_50 ?_
      refine V.istore_n [(3, _), (0, _), (1, _), (2, _), (4, _)] dX11_odds_51 rfl (by decide) rfl ?_
      refine V.iinc (v := (x4 + (1))) 4 [(4, _), (3, _), (0, _), (1, _), (2, _)] dX11_odds_52 rfl rfl (by decide) rfl ?_
      refine V.goto (tgt := 30) dX11_odds_55 rfl ?_
      exact V.sub [2, 3, 4, 1, 0] rfl (ih _ _ _ _ hF)
def X11_odds (n : Nat) (x1 : Int32) (x2 : Int32) (h : Mm) : Option Int32 := (bp (X1_hasHouse 13 x1 h) (fun r11 => (if r11 = true then (if x2 < 0 then (some (-1)) else (if x2 ≤ (100) then (X11_odds_30 n n x1 x2 (1000000) (0) h) else (some (-1)))) else (some (-1)))))
set_option maxRecDepth 100000 in
set_option maxHeartbeats 4000000 in
theorem s_X11_odds {X : WX} {o : Mm} {n : Nat} {x1 : Int32} {x2 : Int32} {rv : Int32} {h : Mm} (hF : X11_odds n x1 x2 h = some rv) : Sat X yX11_odds cX11_odds 5 (some .int) 4 [.ref (xa X 0), .int x1, .int x2] true o h (some (.int rv)) h := by
  unfold X11_odds at hF
  refine Sat.mk (own := RX11) rfl (by decide +kernel) (Nat.le_of_ble_eq_true rfl) (fun G => ?_)
  refine V.sub (lv2 := [(0, _), (1, _), (2, _)]) [0, 1, 2] rfl ?_
  refine V.aload_n 0 dX11_odds_0 rfl rfl ?_
  refine V.getR (v := 13) fl_X11_42 sh_0 rfl fx_0_4 (by decide) dX11_odds_1 ?_
  refine V.iload_n 1 dX11_odds_4 rfl rfl ?_
  obtain ⟨r11, hc12, hF⟩ := bp_s hF
  refine V.callVi mf_X1_hasHouse ml_X11_153 sh_13 (s_X1_hasHouse (Or.inr rfl) hc12) (by decide) rfl rfl (Nat.le_of_ble_eq_true rfl) dX11_odds_5 ?_
  refine V.ifz_eq (tgt := 21) dX11_odds_8 rfl (fun c => ?_) (fun c => ?_)
  · replace hF := (if_neg c).symm.trans hF
    refine V.iconst (v := -1) dX11_odds_21 rfl ?_
    cases hF
    exact V.iret dX11_odds_22
  · replace hF := (if_pos c).symm.trans hF
    refine V.iload_n 2 dX11_odds_11 rfl rfl ?_
    refine V.if_lt (tgt := 21) dX11_odds_12 rfl (fun c => ?_) (fun c => ?_)
    · replace hF := (if_pos c).symm.trans hF
      refine V.iconst (v := -1) dX11_odds_21 rfl ?_
      cases hF
      exact V.iret dX11_odds_22
    · replace hF := (if_neg c).symm.trans hF
      refine V.iload_n 2 dX11_odds_15 rfl rfl ?_
      refine V.bipush (v := 100) dX11_odds_16 (by decide) ?_
      refine V.icmp_le (tgt := 23) dX11_odds_18 rfl (fun c => ?_) (fun c => ?_)
      · replace hF := (if_pos c).symm.trans hF
        refine V.ldcw (v := 1000000) dX11_odds_23 kc_X11_345 ?_
        refine V.istore_n [(3, _), (0, _), (1, _), (2, _)] dX11_odds_26 rfl (by decide) rfl ?_
        refine V.iconst (v := 0) dX11_odds_27 rfl ?_
        refine V.istore [(4, _), (3, _), (0, _), (1, _), (2, _)] dX11_odds_28 (by decide) rfl ?_
        exact V.sub [2, 3, 4, 1, 0] rfl (v_X11_odds_30 n _ _ _ _ hF)
      · replace hF := (if_neg c).symm.trans hF
        refine V.iconst (v := -1) dX11_odds_21 rfl ?_
        cases hF
        exact V.iret dX11_odds_22
/-! MonsterCot$Search.readingsOf -/
theorem dX6_readingsOf_0 : decode cX6_readingsOf 0 = .ok (.aload_n 0, 1) := by decide +kernel
theorem dX6_readingsOf_1 : decode cX6_readingsOf 1 = .ok (.getfield 28, 3) := by decide +kernel
theorem dX6_readingsOf_4 : decode cX6_readingsOf 4 = .ok (.iload_n 1, 1) := by decide +kernel
theorem dX6_readingsOf_5 : decode cX6_readingsOf 5 = .ok (.invokevirtual 95, 3) := by decide +kernel
theorem dX6_readingsOf_8 : decode cX6_readingsOf 8 = .ok (.istore_n 2, 1) := by decide +kernel
theorem dX6_readingsOf_9 : decode cX6_readingsOf 9 = .ok (.aload_n 0, 1) := by decide +kernel
theorem dX6_readingsOf_10 : decode cX6_readingsOf 10 = .ok (.getfield 34, 3) := by decide +kernel
theorem dX6_readingsOf_13 : decode cX6_readingsOf 13 = .ok (.getfield 83, 3) := by decide +kernel
theorem dX6_readingsOf_16 : decode cX6_readingsOf 16 = .ok (.aload_n 0, 1) := by decide +kernel
theorem dX6_readingsOf_17 : decode cX6_readingsOf 17 = .ok (.getfield 34, 3) := by decide +kernel
theorem dX6_readingsOf_20 : decode cX6_readingsOf 20 = .ok (.getfield 86, 3) := by decide +kernel
theorem dX6_readingsOf_23 : decode cX6_readingsOf 23 = .ok (.invokestatic 79, 3) := by decide +kernel
theorem dX6_readingsOf_26 : decode cX6_readingsOf 26 = .ok (.istore_n 3, 1) := by decide +kernel
theorem dX6_readingsOf_27 : decode cX6_readingsOf 27 = .ok (.aload_n 0, 1) := by decide +kernel
theorem dX6_readingsOf_28 : decode cX6_readingsOf 28 = .ok (.getfield 34, 3) := by decide +kernel
theorem dX6_readingsOf_31 : decode cX6_readingsOf 31 = .ok (.getfield 52, 3) := by decide +kernel
theorem dX6_readingsOf_34 : decode cX6_readingsOf 34 = .ok (.istore 4, 2) := by decide +kernel
theorem dX6_readingsOf_36 : decode cX6_readingsOf 36 = .ok (.aload_n 0, 1) := by decide +kernel
theorem dX6_readingsOf_37 : decode cX6_readingsOf 37 = .ok (.getfield 34, 3) := by decide +kernel
theorem dX6_readingsOf_40 : decode cX6_readingsOf 40 = .ok (.getfield 45, 3) := by decide +kernel
theorem dX6_readingsOf_43 : decode cX6_readingsOf 43 = .ok (.aload_n 0, 1) := by decide +kernel
theorem dX6_readingsOf_44 : decode cX6_readingsOf 44 = .ok (.getfield 28, 3) := by decide +kernel
theorem dX6_readingsOf_47 : decode cX6_readingsOf 47 = .ok (.iload_n 1, 1) := by decide +kernel
theorem dX6_readingsOf_48 : decode cX6_readingsOf 48 = .ok (.invokevirtual 76, 3) := by decide +kernel
theorem dX6_readingsOf_51 : decode cX6_readingsOf 51 = .ok (.invokestatic 79, 3) := by decide +kernel
theorem dX6_readingsOf_54 : decode cX6_readingsOf 54 = .ok (.istore 5, 2) := by decide +kernel
theorem dX6_readingsOf_56 : decode cX6_readingsOf 56 = .ok (.iconst 0, 1) := by decide +kernel
theorem dX6_readingsOf_57 : decode cX6_readingsOf 57 = .ok (.istore 6, 2) := by decide +kernel
theorem dX6_readingsOf_59 : decode cX6_readingsOf 59 = .ok (.iload 6, 2) := by decide +kernel
theorem dX6_readingsOf_61 : decode cX6_readingsOf 61 = .ok (.bipush 20, 2) := by decide +kernel
theorem dX6_readingsOf_63 : decode cX6_readingsOf 63 = .ok (.if_icmp .ge 95, 3) := by decide +kernel
theorem dX6_readingsOf_66 : decode cX6_readingsOf 66 = .ok (.iconst 0, 1) := by decide +kernel
theorem dX6_readingsOf_67 : decode cX6_readingsOf 67 = .ok (.istore 7, 2) := by decide +kernel
theorem dX6_readingsOf_69 : decode cX6_readingsOf 69 = .ok (.iload 7, 2) := by decide +kernel
theorem dX6_readingsOf_71 : decode cX6_readingsOf 71 = .ok (.iload_n 2, 1) := by decide +kernel
theorem dX6_readingsOf_72 : decode cX6_readingsOf 72 = .ok (.if_icmp .ge 41, 3) := by decide +kernel
theorem dX6_readingsOf_75 : decode cX6_readingsOf 75 = .ok (.iload 4, 2) := by decide +kernel
theorem dX6_readingsOf_77 : decode cX6_readingsOf 77 = .ok (.aload_n 0, 1) := by decide +kernel
theorem dX6_readingsOf_78 : decode cX6_readingsOf 78 = .ok (.getfield 18, 3) := by decide +kernel
theorem dX6_readingsOf_81 : decode cX6_readingsOf 81 = .ok (.iload_n 1, 1) := by decide +kernel
theorem dX6_readingsOf_82 : decode cX6_readingsOf 82 = .ok (.iload 7, 2) := by decide +kernel
theorem dX6_readingsOf_84 : decode cX6_readingsOf 84 = .ok (.iload_n 3, 1) := by decide +kernel
theorem dX6_readingsOf_85 : decode cX6_readingsOf 85 = .ok (.iload 5, 2) := by decide +kernel
theorem dX6_readingsOf_87 : decode cX6_readingsOf 87 = .ok (.aload_n 0, 1) := by decide +kernel
theorem dX6_readingsOf_88 : decode cX6_readingsOf 88 = .ok (.getfield 34, 3) := by decide +kernel
theorem dX6_readingsOf_91 : decode cX6_readingsOf 91 = .ok (.getfield 107, 3) := by decide +kernel
theorem dX6_readingsOf_94 : decode cX6_readingsOf 94 = .ok (.iload 6, 2) := by decide +kernel
theorem dX6_readingsOf_96 : decode cX6_readingsOf 96 = .ok (.iadd, 1) := by decide +kernel
theorem dX6_readingsOf_97 : decode cX6_readingsOf 97 = .ok (.iconst 0, 1) := by decide +kernel
theorem dX6_readingsOf_98 : decode cX6_readingsOf 98 = .ok (.invokevirtual 178, 3) := by decide +kernel
theorem dX6_readingsOf_101 : decode cX6_readingsOf 101 = .ok (.iadd, 1) := by decide +kernel
theorem dX6_readingsOf_102 : decode cX6_readingsOf 102 = .ok (.invokestatic 116, 3) := by decide +kernel
theorem dX6_readingsOf_105 : decode cX6_readingsOf 105 = .ok (.istore 4, 2) := by decide +kernel
theorem dX6_readingsOf_107 : decode cX6_readingsOf 107 = .ok (.iinc 7 1, 3) := by decide +kernel
theorem dX6_readingsOf_110 : decode cX6_readingsOf 110 = .ok (.goto (-41), 3) := by decide +kernel
theorem dX6_readingsOf_113 : decode cX6_readingsOf 113 = .ok (.iload 4, 2) := by decide +kernel
theorem dX6_readingsOf_115 : decode cX6_readingsOf 115 = .ok (.aload_n 0, 1) := by decide +kernel
theorem dX6_readingsOf_116 : decode cX6_readingsOf 116 = .ok (.getfield 28, 3) := by decide +kernel
theorem dX6_readingsOf_119 : decode cX6_readingsOf 119 = .ok (.invokevirtual 104, 3) := by decide +kernel
theorem dX6_readingsOf_122 : decode cX6_readingsOf 122 = .ok (.if_icmp .ge 6, 3) := by decide +kernel
theorem dX6_readingsOf_125 : decode cX6_readingsOf 125 = .ok (.iload 6, 2) := by decide +kernel
theorem dX6_readingsOf_127 : decode cX6_readingsOf 127 = .ok (.ireturn, 1) := by decide +kernel
theorem dX6_readingsOf_128 : decode cX6_readingsOf 128 = .ok (.aload_n 0, 1) := by decide +kernel
theorem dX6_readingsOf_129 : decode cX6_readingsOf 129 = .ok (.getfield 18, 3) := by decide +kernel
theorem dX6_readingsOf_132 : decode cX6_readingsOf 132 = .ok (.iload 4, 2) := by decide +kernel
theorem dX6_readingsOf_134 : decode cX6_readingsOf 134 = .ok (.invokevirtual 156, 3) := by decide +kernel
theorem dX6_readingsOf_137 : decode cX6_readingsOf 137 = .ok (.istore 4, 2) := by decide +kernel
theorem dX6_readingsOf_139 : decode cX6_readingsOf 139 = .ok (.iconst 0, 1) := by decide +kernel
theorem dX6_readingsOf_140 : decode cX6_readingsOf 140 = .ok (.iload 5, 2) := by decide +kernel
theorem dX6_readingsOf_142 : decode cX6_readingsOf 142 = .ok (.invokestatic 123, 3) := by decide +kernel
theorem dX6_readingsOf_145 : decode cX6_readingsOf 145 = .ok (.iconst 1, 1) := by decide +kernel
theorem dX6_readingsOf_146 : decode cX6_readingsOf 146 = .ok (.isub, 1) := by decide +kernel
theorem dX6_readingsOf_147 : decode cX6_readingsOf 147 = .ok (.invokestatic 150, 3) := by decide +kernel
theorem dX6_readingsOf_150 : decode cX6_readingsOf 150 = .ok (.istore 5, 2) := by decide +kernel
theorem dX6_readingsOf_152 : decode cX6_readingsOf 152 = .ok (.iinc 6 1, 3) := by decide +kernel
theorem dX6_readingsOf_155 : decode cX6_readingsOf 155 = .ok (.goto (-96), 3) := by decide +kernel
theorem dX6_readingsOf_158 : decode cX6_readingsOf 158 = .ok (.bipush 20, 2) := by decide +kernel
theorem dX6_readingsOf_160 : decode cX6_readingsOf 160 = .ok (.ireturn, 1) := by decide +kernel
def X6_readingsOf_69 (n : Nat) (K59 : Int32 → Int32 → Int32 → Int32 → Int32 → Int32 → Mm → Option (Int32 × Mm)) : Nat → Int32 → Int32 → Int32 → Int32 → Int32 → Int32 → Int32 → Mm → Option (Int32 × Mm)
  | 0, _, _, _, _, _, _, _, _ => none
  | f + 1, x1, x2, x3, x4, x5, x6, x7, h => (if x2 ≤ x7 then (bp (X1_enough 13 h) (fun r72 => (if r72 ≤ x4 then (bp (X9_calmBehindNight x4 h) (fun r74 => (bp (X9_moreBored x5 h) (fun r76 => (bp (J9_max_7cf53 (0) (r76 - (1)) h) (fun r78 => (K59 x1 x2 x3 r74 r78 (x6 + (1)) h))))))) else (some (x6, h))))) else (bd (X9_worthOf n x1 x7 x3 x5 ((h.1 27 6) + x6) (0) h) (fun r80 h82 => (bp (X11_heldCalm (x4 + r80) h82) (fun r83 => ((X6_readingsOf_69 n K59 f) x1 x2 x3 r83 x5 x6 (x7 + (1)) h82))))))
set_option maxRecDepth 100000 in
set_option maxHeartbeats 4000000 in
theorem v_X6_readingsOf_69 {X : WX} {G : GX} {o : Mm} {n : Nat} {K59 : Int32 → Int32 → Int32 → Int32 → Int32 → Int32 → Mm → Option (Int32 × Mm)} {rv : Int32} {hz : Mm} (hK59 : ∀ (x1 : Int32) (x2 : Int32) (x3 : Int32) (x4 : Int32) (x5 : Int32) (x6 : Int32) (h : Mm), K59 x1 x2 x3 x4 x5 x6 h = some (rv, hz) → V X G RX6 cX6_readingsOf 8 (some .int) 5 0 0 (QR X G true o (some (.int rv)) hz) true o 59 [(0, .ref (xa X 246)), (1, .int x1), (2, .int x2), (3, .int x3), (4, .int x4), (5, .int x5), (6, .int x6)] [] h) : ∀ (f : Nat) (x1 : Int32) (x2 : Int32) (x3 : Int32) (x4 : Int32) (x5 : Int32) (x6 : Int32) (x7 : Int32) (h : Mm), X6_readingsOf_69 n K59 f x1 x2 x3 x4 x5 x6 x7 h = some (rv, hz) → V X G RX6 cX6_readingsOf 8 (some .int) 5 0 0 (QR X G true o (some (.int rv)) hz) true o 69 [(0, .ref (xa X 246)), (1, .int x1), (2, .int x2), (3, .int x3), (4, .int x4), (5, .int x5), (6, .int x6), (7, .int x7)] [] h := by
  intro f
  induction f with
  | zero => intro x1 x2 x3 x4 x5 x6 x7 h hF; exact nomatch (show (none : Option (Int32 × Mm)) = some (rv, hz) from hF)
  | succ f ih =>
    intro x1 x2 x3 x4 x5 x6 x7 h hF
    unfold X6_readingsOf_69 at hF
    refine V.iload 7 dX6_readingsOf_69 rfl ?_
    refine V.iload_n 2 dX6_readingsOf_71 rfl rfl ?_
    refine V.icmp_ge (tgt := 113) dX6_readingsOf_72 rfl (fun c => ?_) (fun c => ?_)
    · replace hF := (if_pos c).symm.trans hF
      refine V.iload 4 dX6_readingsOf_113 rfl ?_
      refine V.aload_n 0 dX6_readingsOf_115 rfl rfl ?_
      refine V.getR (v := 13) fl_X6_28 sh_246 rfl fx_246_1 (by decide) dX6_readingsOf_116 ?_
      obtain ⟨r72, hc73, hF⟩ := bp_s hF
      refine V.callVi mf_X1_enough ml_X6_104 sh_13 (s_X1_enough (Or.inr rfl) hc73) (by decide) rfl rfl (Nat.le_of_ble_eq_true rfl) dX6_readingsOf_119 ?_
      refine V.icmp_ge (tgt := 128) dX6_readingsOf_122 rfl (fun c => ?_) (fun c => ?_)
      · replace hF := (if_pos c).symm.trans hF
        refine V.aload_n 0 dX6_readingsOf_128 rfl rfl ?_
        refine V.getR (v := 26) fl_X6_18 sh_246 rfl fx_246_0 (by decide) dX6_readingsOf_129 ?_
        refine V.iload 4 dX6_readingsOf_132 rfl ?_
        obtain ⟨r74, hc75, hF⟩ := bp_s hF
        refine V.callVi mf_X9_calmBehindNight ml_X6_156 sh_26 (s_X9_calmBehindNight hc75) (by decide) rfl rfl (Nat.le_of_ble_eq_true rfl) dX6_readingsOf_134 ?_
        refine V.istore [(4, _), (0, _), (1, _), (2, _), (3, _), (5, _), (6, _), (7, _)] dX6_readingsOf_137 (by decide) rfl ?_
        refine V.iconst (v := 0) dX6_readingsOf_139 rfl ?_
        refine V.iload 5 dX6_readingsOf_140 rfl ?_
        obtain ⟨r76, hc77, hF⟩ := bp_s hF
        refine V.callSi mf_X9_moreBored ml_X6_123 (s_X9_moreBored hc77) (by decide) rfl rfl (Nat.le_of_ble_eq_true rfl) dX6_readingsOf_142 ?_
        refine V.iconst (v := 1) dX6_readingsOf_145 rfl ?_
        refine V.isub dX6_readingsOf_146 ?_
        obtain ⟨r78, hc79, hF⟩ := bp_s hF
        refine V.callSi mf_J9_max_7cf53 ml_X6_150 (s_J9_max_7cf53 hc79) (by decide) rfl rfl (Nat.le_of_ble_eq_true rfl) dX6_readingsOf_147 ?_
        refine V.istore [(5, _), (4, _), (0, _), (1, _), (2, _), (3, _), (6, _), (7, _)] dX6_readingsOf_150 (by decide) rfl ?_
        refine V.iinc (v := (x6 + (1))) 6 [(6, _), (5, _), (4, _), (0, _), (1, _), (2, _), (3, _), (7, _)] dX6_readingsOf_152 rfl rfl (by decide) rfl ?_
        refine V.goto (tgt := 59) dX6_readingsOf_155 rfl ?_
        exact V.sub [3, 4, 5, 6, 2, 1, 0] rfl (hK59 _ _ _ _ _ _ _ hF)
      · replace hF := (if_neg c).symm.trans hF
        refine V.iload 6 dX6_readingsOf_125 rfl ?_
        cases hF
        exact V.iret dX6_readingsOf_127
    · replace hF := (if_neg c).symm.trans hF
      refine V.iload 4 dX6_readingsOf_75 rfl ?_
      refine V.aload_n 0 dX6_readingsOf_77 rfl rfl ?_
      refine V.getR (v := 26) fl_X6_18 sh_246 rfl fx_246_0 (by decide) dX6_readingsOf_78 ?_
      refine V.iload_n 1 dX6_readingsOf_81 rfl rfl ?_
      refine V.iload 7 dX6_readingsOf_82 rfl ?_
      refine V.iload_n 3 dX6_readingsOf_84 rfl rfl ?_
      refine V.iload 5 dX6_readingsOf_85 rfl ?_
      refine V.aload_n 0 dX6_readingsOf_87 rfl rfl ?_
      refine V.getR (v := 27) fl_X6_34 sh_246 rfl fx_246_3 (by decide) dX6_readingsOf_88 ?_
      refine V.getI fl_X6_107 sh_27 rfl km_27 dX6_readingsOf_91 ?_
      refine V.iload 6 dX6_readingsOf_94 rfl ?_
      refine V.iadd dX6_readingsOf_96 ?_
      refine V.iconst (v := 0) dX6_readingsOf_97 rfl ?_
      obtain ⟨r80, h82, hc81, hF⟩ := bd_s hF
      refine V.callVi mf_X9_worthOf ml_X6_178 sh_26 (s_X9_worthOf hc81) (by decide) rfl rfl (Nat.le_of_ble_eq_true rfl) dX6_readingsOf_98 ?_
      refine V.iadd dX6_readingsOf_101 ?_
      obtain ⟨r83, hc84, hF⟩ := bp_s hF
      refine V.callNi mf_X11_heldCalm ml_X6_116 (s_X11_heldCalm hc84) (by decide) rfl rfl (Nat.le_of_ble_eq_true rfl) dX6_readingsOf_102 ?_
      refine V.istore [(4, _), (0, _), (1, _), (2, _), (3, _), (5, _), (6, _), (7, _)] dX6_readingsOf_105 (by decide) rfl ?_
      refine V.iinc (v := (x7 + (1))) 7 [(7, _), (4, _), (0, _), (1, _), (2, _), (3, _), (5, _), (6, _)] dX6_readingsOf_107 rfl rfl (by decide) rfl ?_
      refine V.goto (tgt := 69) dX6_readingsOf_110 rfl ?_
      exact V.sub [2, 3, 4, 5, 1, 6, 7, 0] rfl (ih _ _ _ _ _ _ _ _ hF)
def X6_readingsOf_59 (n : Nat) : Nat → Int32 → Int32 → Int32 → Int32 → Int32 → Int32 → Mm → Option (Int32 × Mm)
  | 0, _, _, _, _, _, _, _ => none
  | f + 1, x1, x2, x3, x4, x5, x6, h => (if (20) ≤ x6 then (some ((20), h)) else (X6_readingsOf_69 n (X6_readingsOf_59 n f) n x1 x2 x3 x4 x5 x6 (0) h))
set_option maxRecDepth 100000 in
set_option maxHeartbeats 4000000 in
theorem v_X6_readingsOf_59 {X : WX} {G : GX} {o : Mm} {n : Nat} {rv : Int32} {hz : Mm} : ∀ (f : Nat) (x1 : Int32) (x2 : Int32) (x3 : Int32) (x4 : Int32) (x5 : Int32) (x6 : Int32) (h : Mm), X6_readingsOf_59 n f x1 x2 x3 x4 x5 x6 h = some (rv, hz) → V X G RX6 cX6_readingsOf 8 (some .int) 5 0 0 (QR X G true o (some (.int rv)) hz) true o 59 [(0, .ref (xa X 246)), (1, .int x1), (2, .int x2), (3, .int x3), (4, .int x4), (5, .int x5), (6, .int x6)] [] h := by
  intro f
  induction f with
  | zero => intro x1 x2 x3 x4 x5 x6 h hF; exact nomatch (show (none : Option (Int32 × Mm)) = some (rv, hz) from hF)
  | succ f ih =>
    intro x1 x2 x3 x4 x5 x6 h hF
    unfold X6_readingsOf_59 at hF
    refine V.iload 6 dX6_readingsOf_59 rfl ?_
    refine V.bipush (v := 20) dX6_readingsOf_61 (by decide) ?_
    refine V.icmp_ge (tgt := 158) dX6_readingsOf_63 rfl (fun c => ?_) (fun c => ?_)
    · replace hF := (if_pos c).symm.trans hF
      refine V.bipush (v := 20) dX6_readingsOf_158 (by decide) ?_
      cases hF
      exact V.iret dX6_readingsOf_160
    · replace hF := (if_neg c).symm.trans hF
      refine V.iconst (v := 0) dX6_readingsOf_66 rfl ?_
      refine V.istore [(7, _), (0, _), (1, _), (2, _), (3, _), (4, _), (5, _), (6, _)] dX6_readingsOf_67 (by decide) rfl ?_
      exact V.sub [1, 2, 3, 4, 5, 6, 7, 0] rfl (v_X6_readingsOf_69 ih n _ _ _ _ _ _ _ _ hF)
def X6_readingsOf (n : Nat) (x1 : Int32) (h : Mm) : Option (Int32 × Mm) := (bp (X1_pagesOf 13 x1 h) (fun r85 => (bp (X11_at 30 (h.1 27 5) h) (fun r87 => (bp (X1_kindOf 13 x1 h) (fun r89 => (bp (X11_at 28 r89 h) (fun r91 => (X6_readingsOf_59 n n x1 r85 r87 (h.1 27 4) r91 (0) h)))))))))
set_option maxRecDepth 100000 in
set_option maxHeartbeats 4000000 in
theorem s_X6_readingsOf {X : WX} {o : Mm} {n : Nat} {x1 : Int32} {rv : Int32} {hz : Mm} {h : Mm} (hF : X6_readingsOf n x1 h = some (rv, hz)) : Sat X yX6_readingsOf cX6_readingsOf 8 (some .int) 5 [.ref (xa X 246), .int x1] true o h (some (.int rv)) hz := by
  unfold X6_readingsOf at hF
  refine Sat.mk (own := RX6) rfl (by decide +kernel) (Nat.le_of_ble_eq_true rfl) (fun G => ?_)
  refine V.sub (lv2 := [(0, _), (1, _)]) [0, 1] rfl ?_
  refine V.aload_n 0 dX6_readingsOf_0 rfl rfl ?_
  refine V.getR (v := 13) fl_X6_28 sh_246 rfl fx_246_1 (by decide) dX6_readingsOf_1 ?_
  refine V.iload_n 1 dX6_readingsOf_4 rfl rfl ?_
  obtain ⟨r85, hc86, hF⟩ := bp_s hF
  refine V.callVi mf_X1_pagesOf ml_X6_95 sh_13 (s_X1_pagesOf (Or.inr rfl) hc86) (by decide) rfl rfl (Nat.le_of_ble_eq_true rfl) dX6_readingsOf_5 ?_
  refine V.istore_n [(2, _), (0, _), (1, _)] dX6_readingsOf_8 rfl (by decide) rfl ?_
  refine V.aload_n 1 dX6_readingsOf_9 rfl rfl ?_
  refine V.getR (v := 27) fl_X6_34 sh_246 rfl fx_246_3 (by decide) dX6_readingsOf_10 ?_
  refine V.getR (v := 30) fl_X6_83 sh_27 rfl fx_27_2 (by decide) dX6_readingsOf_13 ?_
  refine V.aload_n 1 dX6_readingsOf_16 rfl rfl ?_
  refine V.getR (v := 27) fl_X6_34 sh_246 rfl fx_246_3 (by decide) dX6_readingsOf_17 ?_
  refine V.getI fl_X6_86 sh_27 rfl km_27 dX6_readingsOf_20 ?_
  obtain ⟨r87, hc88, hF⟩ := bp_s hF
  refine V.callNi mf_X11_at ml_X6_79 (s_X11_at (Or.inl io_30) hc88) (by decide) rfl rfl (Nat.le_of_ble_eq_true rfl) dX6_readingsOf_23 ?_
  refine V.istore_n [(3, _), (2, _), (0, _), (1, _)] dX6_readingsOf_26 rfl (by decide) rfl ?_
  refine V.aload_n 2 dX6_readingsOf_27 rfl rfl ?_
  refine V.getR (v := 27) fl_X6_34 sh_246 rfl fx_246_3 (by decide) dX6_readingsOf_28 ?_
  refine V.getI fl_X6_52 sh_27 rfl km_27 dX6_readingsOf_31 ?_
  refine V.istore [(4, _), (3, _), (2, _), (0, _), (1, _)] dX6_readingsOf_34 (by decide) rfl ?_
  refine V.aload_n 3 dX6_readingsOf_36 rfl rfl ?_
  refine V.getR (v := 27) fl_X6_34 sh_246 rfl fx_246_3 (by decide) dX6_readingsOf_37 ?_
  refine V.getR (v := 28) fl_X6_45 sh_27 rfl fx_27_0 (by decide) dX6_readingsOf_40 ?_
  refine V.aload_n 3 dX6_readingsOf_43 rfl rfl ?_
  refine V.getR (v := 13) fl_X6_28 sh_246 rfl fx_246_1 (by decide) dX6_readingsOf_44 ?_
  refine V.iload_n 4 dX6_readingsOf_47 rfl rfl ?_
  obtain ⟨r89, hc90, hF⟩ := bp_s hF
  refine V.callVi mf_X1_kindOf ml_X6_76 sh_13 (s_X1_kindOf (Or.inr rfl) hc90) (by decide) rfl rfl (Nat.le_of_ble_eq_true rfl) dX6_readingsOf_48 ?_
  obtain ⟨r91, hc92, hF⟩ := bp_s hF
  refine V.callNi mf_X11_at ml_X6_79 (s_X11_at (Or.inl io_28) hc92) (by decide) rfl rfl (Nat.le_of_ble_eq_true rfl) dX6_readingsOf_51 ?_
  refine V.istore [(5, _), (4, _), (3, _), (2, _), (0, _), (1, _)] dX6_readingsOf_54 (by decide) rfl ?_
  refine V.iconst (v := 0) dX6_readingsOf_56 rfl ?_
  refine V.istore [(6, _), (5, _), (4, _), (3, _), (2, _), (0, _), (1, _)] dX6_readingsOf_57 (by decide) rfl ?_
  exact V.sub [5, 6, 4, 3, 2, 1, 0] rfl (v_X6_readingsOf_59 n _ _ _ _ _ _ _ hF)
/-! MonsterCot.lasts -/
theorem dX11_lasts_0 : decode cX11_lasts 0 = .ok (.aload_n 0, 1) := by decide +kernel
theorem dX11_lasts_1 : decode cX11_lasts 1 = .ok (.getfield 42, 3) := by decide +kernel
theorem dX11_lasts_4 : decode cX11_lasts 4 = .ok (.iload_n 1, 1) := by decide +kernel
theorem dX11_lasts_5 : decode cX11_lasts 5 = .ok (.invokevirtual 137, 3) := by decide +kernel
theorem dX11_lasts_8 : decode cX11_lasts 8 = .ok (.ifCond .eq 14, 3) := by decide +kernel
theorem dX11_lasts_11 : decode cX11_lasts 11 = .ok (.aload_n 0, 1) := by decide +kernel
theorem dX11_lasts_12 : decode cX11_lasts 12 = .ok (.getfield 84, 3) := by decide +kernel
theorem dX11_lasts_15 : decode cX11_lasts 15 = .ok (.iload_n 1, 1) := by decide +kernel
theorem dX11_lasts_16 : decode cX11_lasts 16 = .ok (.invokevirtual 346, 3) := by decide +kernel
theorem dX11_lasts_19 : decode cX11_lasts 19 = .ok (.goto 4, 3) := by decide +kernel
theorem dX11_lasts_22 : decode cX11_lasts 22 = .ok (.iconst (-1), 1) := by decide +kernel
theorem dX11_lasts_23 : decode cX11_lasts 23 = .ok (.ireturn, 1) := by decide +kernel
def X11_lasts (n : Nat) (x1 : Int32) (h : Mm) : Option (Int32 × Mm) := (bp (X1_hasBook 13 x1 h) (fun r6 => (if r6 = true then (bd (X6_readingsOf n x1 h) (fun r8 h10 => (some (r8, h10)))) else (some ((-1), h)))))
set_option maxRecDepth 100000 in
set_option maxHeartbeats 4000000 in
theorem s_X11_lasts {X : WX} {o : Mm} {n : Nat} {x1 : Int32} {rv : Int32} {hz : Mm} {h : Mm} (hF : X11_lasts n x1 h = some (rv, hz)) : Sat X yX11_lasts cX11_lasts 2 (some .int) 6 [.ref (xa X 0), .int x1] true o h (some (.int rv)) hz := by
  unfold X11_lasts at hF
  refine Sat.mk (own := RX11) rfl (by decide +kernel) (Nat.le_of_ble_eq_true rfl) (fun G => ?_)
  refine V.sub (lv2 := [(0, _), (1, _)]) [0, 1] rfl ?_
  refine V.aload_n 0 dX11_lasts_0 rfl rfl ?_
  refine V.getR (v := 13) fl_X11_42 sh_0 rfl fx_0_4 (by decide) dX11_lasts_1 ?_
  refine V.iload_n 1 dX11_lasts_4 rfl rfl ?_
  obtain ⟨r6, hc7, hF⟩ := bp_s hF
  refine V.callVi mf_X1_hasBook ml_X11_137 sh_13 (s_X1_hasBook (Or.inr rfl) hc7) (by decide) rfl rfl (Nat.le_of_ble_eq_true rfl) dX11_lasts_5 ?_
  refine V.ifz_eq (tgt := 22) dX11_lasts_8 rfl (fun c => ?_) (fun c => ?_)
  · replace hF := (if_neg c).symm.trans hF
    refine V.iconst (v := -1) dX11_lasts_22 rfl ?_
    cases hF
    exact V.iret dX11_lasts_23
  · replace hF := (if_pos c).symm.trans hF
    refine V.aload_n 0 dX11_lasts_11 rfl rfl ?_
    refine V.getR (v := 246) fl_X11_84 sh_0 rfl fx_0_10 (by decide) dX11_lasts_12 ?_
    refine V.iload_n 1 dX11_lasts_15 rfl rfl ?_
    obtain ⟨r8, h10, hc9, hF⟩ := bd_s hF
    refine V.callVi mf_X6_readingsOf ml_X11_346 sh_246 (s_X6_readingsOf hc9) (by decide) rfl rfl (Nat.le_of_ble_eq_true rfl) dX11_lasts_16 ?_
    refine V.goto (tgt := 23) dX11_lasts_19 rfl ?_
    cases hF
    exact V.iret dX11_lasts_23
/-! MonsterCot$Search.nightsToQuiet -/
theorem dX6_nightsToQuiet_0 : decode cX6_nightsToQuiet 0 = .ok (.aload_n 0, 1) := by decide +kernel
theorem dX6_nightsToQuiet_1 : decode cX6_nightsToQuiet 1 = .ok (.getfield 34, 3) := by decide +kernel
theorem dX6_nightsToQuiet_4 : decode cX6_nightsToQuiet 4 = .ok (.getfield 52, 3) := by decide +kernel
theorem dX6_nightsToQuiet_7 : decode cX6_nightsToQuiet 7 = .ok (.istore_n 1, 1) := by decide +kernel
theorem dX6_nightsToQuiet_8 : decode cX6_nightsToQuiet 8 = .ok (.iconst 0, 1) := by decide +kernel
theorem dX6_nightsToQuiet_9 : decode cX6_nightsToQuiet 9 = .ok (.istore_n 2, 1) := by decide +kernel
theorem dX6_nightsToQuiet_10 : decode cX6_nightsToQuiet 10 = .ok (.iload_n 2, 1) := by decide +kernel
theorem dX6_nightsToQuiet_11 : decode cX6_nightsToQuiet 11 = .ok (.bipush 60, 2) := by decide +kernel
theorem dX6_nightsToQuiet_13 : decode cX6_nightsToQuiet 13 = .ok (.if_icmp .gt 24, 3) := by decide +kernel
theorem dX6_nightsToQuiet_16 : decode cX6_nightsToQuiet 16 = .ok (.iload_n 1, 1) := by decide +kernel
theorem dX6_nightsToQuiet_17 : decode cX6_nightsToQuiet 17 = .ok (.ifCond .ne 5, 3) := by decide +kernel
theorem dX6_nightsToQuiet_20 : decode cX6_nightsToQuiet 20 = .ok (.iload_n 2, 1) := by decide +kernel
theorem dX6_nightsToQuiet_21 : decode cX6_nightsToQuiet 21 = .ok (.ireturn, 1) := by decide +kernel
theorem dX6_nightsToQuiet_22 : decode cX6_nightsToQuiet 22 = .ok (.aload_n 0, 1) := by decide +kernel
theorem dX6_nightsToQuiet_23 : decode cX6_nightsToQuiet 23 = .ok (.getfield 18, 3) := by decide +kernel
theorem dX6_nightsToQuiet_26 : decode cX6_nightsToQuiet 26 = .ok (.iload_n 1, 1) := by decide +kernel
theorem dX6_nightsToQuiet_27 : decode cX6_nightsToQuiet 27 = .ok (.invokevirtual 156, 3) := by decide +kernel
theorem dX6_nightsToQuiet_30 : decode cX6_nightsToQuiet 30 = .ok (.istore_n 1, 1) := by decide +kernel
theorem dX6_nightsToQuiet_31 : decode cX6_nightsToQuiet 31 = .ok (.iinc 2 1, 3) := by decide +kernel
theorem dX6_nightsToQuiet_34 : decode cX6_nightsToQuiet 34 = .ok (.goto (-24), 3) := by decide +kernel
theorem dX6_nightsToQuiet_37 : decode cX6_nightsToQuiet 37 = .ok (.iconst (-1), 1) := by decide +kernel
theorem dX6_nightsToQuiet_38 : decode cX6_nightsToQuiet 38 = .ok (.ireturn, 1) := by decide +kernel
def X6_nightsToQuiet_10 (n : Nat) : Nat → Int32 → Int32 → Mm → Option Int32
  | 0, _, _, _ => none
  | f + 1, x1, x2, h => (if (60) < x2 then (some (-1)) else (if x1 = 0 then (some x2) else (bp (X9_calmBehindNight x1 h) (fun r5 => ((X6_nightsToQuiet_10 n f) r5 (x2 + (1)) h)))))
set_option maxRecDepth 100000 in
set_option maxHeartbeats 4000000 in
theorem v_X6_nightsToQuiet_10 {X : WX} {G : GX} {o : Mm} {n : Nat} {rv : Int32} {h : Mm} : ∀ (f : Nat) (x1 : Int32) (x2 : Int32), X6_nightsToQuiet_10 n f x1 x2 h = some rv → V X G RX6 cX6_nightsToQuiet 3 (some .int) 5 0 0 (QR X G true o (some (.int rv)) h) true o 10 [(0, .ref (xa X 246)), (1, .int x1), (2, .int x2)] [] h := by
  intro f
  induction f with
  | zero => intro x1 x2 hF; exact nomatch (show (none : Option Int32) = some rv from hF)
  | succ f ih =>
    intro x1 x2 hF
    unfold X6_nightsToQuiet_10 at hF
    refine V.iload_n 2 dX6_nightsToQuiet_10 rfl rfl ?_
    refine V.bipush (v := 60) dX6_nightsToQuiet_11 (by decide) ?_
    refine V.icmp_gt (tgt := 37) dX6_nightsToQuiet_13 rfl (fun c => ?_) (fun c => ?_)
    · replace hF := (if_pos c).symm.trans hF
      refine V.iconst (v := -1) dX6_nightsToQuiet_37 rfl ?_
      cases hF
      exact V.iret dX6_nightsToQuiet_38
    · replace hF := (if_neg c).symm.trans hF
      refine V.iload_n 1 dX6_nightsToQuiet_16 rfl rfl ?_
      refine V.if_ne (tgt := 22) dX6_nightsToQuiet_17 rfl (fun c => ?_) (fun c => ?_)
      · replace hF := (if_neg c).symm.trans hF
        refine V.aload_n 0 dX6_nightsToQuiet_22 rfl rfl ?_
        refine V.getR (v := 26) fl_X6_18 sh_246 rfl fx_246_0 (by decide) dX6_nightsToQuiet_23 ?_
        refine V.iload_n 1 dX6_nightsToQuiet_26 rfl rfl ?_
        obtain ⟨r5, hc6, hF⟩ := bp_s hF
        refine V.callVi mf_X9_calmBehindNight ml_X6_156 sh_26 (s_X9_calmBehindNight hc6) (by decide) rfl rfl (Nat.le_of_ble_eq_true rfl) dX6_nightsToQuiet_27 ?_
        refine V.istore_n [(1, _), (0, _), (2, _)] dX6_nightsToQuiet_30 rfl (by decide) rfl ?_
        refine V.iinc (v := (x2 + (1))) 2 [(2, _), (1, _), (0, _)] dX6_nightsToQuiet_31 rfl rfl (by decide) rfl ?_
        refine V.goto (tgt := 10) dX6_nightsToQuiet_34 rfl ?_
        exact V.sub [2, 1, 0] rfl (ih _ _ hF)
      · replace hF := (if_pos c).symm.trans hF
        refine V.iload_n 2 dX6_nightsToQuiet_20 rfl rfl ?_
        cases hF
        exact V.iret dX6_nightsToQuiet_21
def X6_nightsToQuiet (n : Nat) (h : Mm) : Option Int32 := (X6_nightsToQuiet_10 n n (h.1 27 4) (0) h)
set_option maxRecDepth 100000 in
set_option maxHeartbeats 4000000 in
theorem s_X6_nightsToQuiet {X : WX} {o : Mm} {n : Nat} {rv : Int32} {h : Mm} (hF : X6_nightsToQuiet n h = some rv) : Sat X yX6_nightsToQuiet cX6_nightsToQuiet 3 (some .int) 5 [.ref (xa X 246)] true o h (some (.int rv)) h := by
  unfold X6_nightsToQuiet at hF
  refine Sat.mk (own := RX6) rfl (by decide +kernel) (Nat.le_of_ble_eq_true rfl) (fun G => ?_)
  refine V.sub (lv2 := [(0, _)]) [0] rfl ?_
  refine V.aload_n 0 dX6_nightsToQuiet_0 rfl rfl ?_
  refine V.getR (v := 27) fl_X6_34 sh_246 rfl fx_246_3 (by decide) dX6_nightsToQuiet_1 ?_
  refine V.getI fl_X6_52 sh_27 rfl km_27 dX6_nightsToQuiet_4 ?_
  refine V.istore_n [(1, _), (0, _)] dX6_nightsToQuiet_7 rfl (by decide) rfl ?_
  refine V.iconst (v := 0) dX6_nightsToQuiet_8 rfl ?_
  refine V.istore_n [(2, _), (1, _), (0, _)] dX6_nightsToQuiet_9 rfl (by decide) rfl ?_
  exact V.sub [2, 1, 0] rfl (v_X6_nightsToQuiet_10 n _ _ hF)
/-! MonsterCot.quiet -/
theorem dX11_quiet_0 : decode cX11_quiet 0 = .ok (.aload_n 0, 1) := by decide +kernel
theorem dX11_quiet_1 : decode cX11_quiet 1 = .ok (.getfield 42, 3) := by decide +kernel
theorem dX11_quiet_4 : decode cX11_quiet 4 = .ok (.invokevirtual 124, 3) := by decide +kernel
theorem dX11_quiet_7 : decode cX11_quiet 7 = .ok (.ifCond .eq 13, 3) := by decide +kernel
theorem dX11_quiet_10 : decode cX11_quiet 10 = .ok (.aload_n 0, 1) := by decide +kernel
theorem dX11_quiet_11 : decode cX11_quiet 11 = .ok (.getfield 84, 3) := by decide +kernel
theorem dX11_quiet_14 : decode cX11_quiet 14 = .ok (.invokevirtual 349, 3) := by decide +kernel
theorem dX11_quiet_17 : decode cX11_quiet 17 = .ok (.goto 4, 3) := by decide +kernel
theorem dX11_quiet_20 : decode cX11_quiet 20 = .ok (.iconst (-1), 1) := by decide +kernel
theorem dX11_quiet_21 : decode cX11_quiet 21 = .ok (.ireturn, 1) := by decide +kernel
def X11_quiet (n : Nat) (h : Mm) : Option Int32 := (bp (X1_stands 13 h) (fun r5 => (if r5 = true then (bp (X6_nightsToQuiet n h) (fun r7 => (some r7))) else (some (-1)))))
set_option maxRecDepth 100000 in
set_option maxHeartbeats 4000000 in
theorem s_X11_quiet {X : WX} {o : Mm} {n : Nat} {rv : Int32} {h : Mm} (hF : X11_quiet n h = some rv) : Sat X yX11_quiet cX11_quiet 1 (some .int) 6 [.ref (xa X 0)] true o h (some (.int rv)) h := by
  unfold X11_quiet at hF
  refine Sat.mk (own := RX11) rfl (by decide +kernel) (Nat.le_of_ble_eq_true rfl) (fun G => ?_)
  refine V.sub (lv2 := [(0, _)]) [0] rfl ?_
  refine V.aload_n 0 dX11_quiet_0 rfl rfl ?_
  refine V.getR (v := 13) fl_X11_42 sh_0 rfl fx_0_4 (by decide) dX11_quiet_1 ?_
  obtain ⟨r5, hc6, hF⟩ := bp_s hF
  refine V.callVi mf_X1_stands ml_X11_124 sh_13 (s_X1_stands (Or.inr rfl) hc6) (by decide) rfl rfl (Nat.le_of_ble_eq_true rfl) dX11_quiet_4 ?_
  refine V.ifz_eq (tgt := 20) dX11_quiet_7 rfl (fun c => ?_) (fun c => ?_)
  · replace hF := (if_neg c).symm.trans hF
    refine V.iconst (v := -1) dX11_quiet_20 rfl ?_
    cases hF
    exact V.iret dX11_quiet_21
  · replace hF := (if_pos c).symm.trans hF
    refine V.aload_n 0 dX11_quiet_10 rfl rfl ?_
    refine V.getR (v := 246) fl_X11_84 sh_0 rfl fx_0_10 (by decide) dX11_quiet_11 ?_
    obtain ⟨r7, hc8, hF⟩ := bp_s hF
    refine V.callVi mf_X6_nightsToQuiet ml_X11_349 sh_246 (s_X6_nightsToQuiet hc8) (by decide) rfl rfl (Nat.le_of_ble_eq_true rfl) dX11_quiet_14 ?_
    refine V.goto (tgt := 21) dX11_quiet_17 rfl ?_
    cases hF
    exact V.iret dX11_quiet_21
/-! MonsterCot$Search.fairest -/
theorem dX6_fairest_0 : decode cX6_fairest 0 = .ok (.iconst 0, 1) := by decide +kernel
theorem dX6_fairest_1 : decode cX6_fairest 1 = .ok (.istore_n 1, 1) := by decide +kernel
theorem dX6_fairest_2 : decode cX6_fairest 2 = .ok (.iconst 1, 1) := by decide +kernel
theorem dX6_fairest_3 : decode cX6_fairest 3 = .ok (.istore_n 2, 1) := by decide +kernel
theorem dX6_fairest_4 : decode cX6_fairest 4 = .ok (.iload_n 2, 1) := by decide +kernel
theorem dX6_fairest_5 : decode cX6_fairest 5 = .ok (.aload_n 0, 1) := by decide +kernel
theorem dX6_fairest_6 : decode cX6_fairest 6 = .ok (.getfield 28, 3) := by decide +kernel
theorem dX6_fairest_9 : decode cX6_fairest 9 = .ok (.invokevirtual 136, 3) := by decide +kernel
theorem dX6_fairest_12 : decode cX6_fairest 12 = .ok (.if_icmp .ge 40, 3) := by decide +kernel
theorem dX6_fairest_15 : decode cX6_fairest 15 = .ok (.aload_n 0, 1) := by decide +kernel
theorem dX6_fairest_16 : decode cX6_fairest 16 = .ok (.getfield 34, 3) := by decide +kernel
theorem dX6_fairest_19 : decode cX6_fairest 19 = .ok (.getfield 179, 3) := by decide +kernel
theorem dX6_fairest_22 : decode cX6_fairest 22 = .ok (.iload_n 2, 1) := by decide +kernel
theorem dX6_fairest_23 : decode cX6_fairest 23 = .ok (.invokestatic 79, 3) := by decide +kernel
theorem dX6_fairest_26 : decode cX6_fairest 26 = .ok (.aload_n 0, 1) := by decide +kernel
theorem dX6_fairest_27 : decode cX6_fairest 27 = .ok (.getfield 34, 3) := by decide +kernel
theorem dX6_fairest_30 : decode cX6_fairest 30 = .ok (.getfield 179, 3) := by decide +kernel
theorem dX6_fairest_33 : decode cX6_fairest 33 = .ok (.iload_n 1, 1) := by decide +kernel
theorem dX6_fairest_34 : decode cX6_fairest 34 = .ok (.invokestatic 79, 3) := by decide +kernel
theorem dX6_fairest_37 : decode cX6_fairest 37 = .ok (.if_icmp .ge 7, 3) := by decide +kernel
theorem dX6_fairest_40 : decode cX6_fairest 40 = .ok (.iload_n 2, 1) := by decide +kernel
theorem dX6_fairest_41 : decode cX6_fairest 41 = .ok (.goto 4, 3) := by decide +kernel
theorem dX6_fairest_44 : decode cX6_fairest 44 = .ok (.iload_n 1, 1) := by decide +kernel
theorem dX6_fairest_45 : decode cX6_fairest 45 = .ok (.istore_n 1, 1) := by decide +kernel
theorem dX6_fairest_46 : decode cX6_fairest 46 = .ok (.iinc 2 1, 3) := by decide +kernel
theorem dX6_fairest_49 : decode cX6_fairest 49 = .ok (.goto (-45), 3) := by decide +kernel
theorem dX6_fairest_52 : decode cX6_fairest 52 = .ok (.iload_n 1, 1) := by decide +kernel
theorem dX6_fairest_53 : decode cX6_fairest 53 = .ok (.ireturn, 1) := by decide +kernel
def X6_fairest_45 (n : Nat) (K4 : Int32 → Int32 → Mm → Option Int32) (x2 : Int32) (s0 : Int32) (h : Mm) : Option Int32 := (K4 s0 (x2 + (1)) h)
set_option maxRecDepth 100000 in
set_option maxHeartbeats 4000000 in
theorem v_X6_fairest_45 {X : WX} {G : GX} {o : Mm} {n : Nat} {K4 : Int32 → Int32 → Mm → Option Int32} {rv : Int32} {h : Mm} (hK4 : ∀ (x1 : Int32) (x2 : Int32), K4 x1 x2 h = some rv → V X G RX6 cX6_fairest 3 (some .int) 3 0 0 (QR X G true o (some (.int rv)) h) true o 4 [(0, .ref (xa X 246)), (1, .int x1), (2, .int x2)] [] h) {x2 : Int32} {s0 : Int32} (hF : X6_fairest_45 n K4 x2 s0 h = some rv) : V X G RX6 cX6_fairest 3 (some .int) 3 0 0 (QR X G true o (some (.int rv)) h) true o 45 [(0, .ref (xa X 246)), (2, .int x2)] [.int s0] h := by
  unfold X6_fairest_45 at hF
  refine V.istore_n [(1, _), (0, _), (2, _)] dX6_fairest_45 rfl (by decide) rfl ?_
  refine V.iinc (v := (x2 + (1))) 2 [(2, _), (1, _), (0, _)] dX6_fairest_46 rfl rfl (by decide) rfl ?_
  refine V.goto (tgt := 4) dX6_fairest_49 rfl ?_
  exact V.sub [2, 1, 0] rfl (hK4 _ _ hF)
def X6_fairest_4 (n : Nat) : Nat → Int32 → Int32 → Mm → Option Int32
  | 0, _, _, _ => none
  | f + 1, x1, x2, h => (bp (X1_houses 13 h) (fun r25 => (if r25 ≤ x2 then (some x1) else (bp (X11_at 31 x2 h) (fun r27 => (bp (X11_at 31 x1 h) (fun r29 => (if r29 ≤ r27 then (X6_fairest_45 n (X6_fairest_4 n f) x2 x1 h) else (X6_fairest_45 n (X6_fairest_4 n f) x2 x2 h)))))))))
set_option maxRecDepth 100000 in
set_option maxHeartbeats 4000000 in
theorem v_X6_fairest_4 {X : WX} {G : GX} {o : Mm} {n : Nat} {rv : Int32} {h : Mm} : ∀ (f : Nat) (x1 : Int32) (x2 : Int32), X6_fairest_4 n f x1 x2 h = some rv → V X G RX6 cX6_fairest 3 (some .int) 3 0 0 (QR X G true o (some (.int rv)) h) true o 4 [(0, .ref (xa X 246)), (1, .int x1), (2, .int x2)] [] h := by
  intro f
  induction f with
  | zero => intro x1 x2 hF; exact nomatch (show (none : Option Int32) = some rv from hF)
  | succ f ih =>
    intro x1 x2 hF
    unfold X6_fairest_4 at hF
    refine V.iload_n 2 dX6_fairest_4 rfl rfl ?_
    refine V.aload_n 0 dX6_fairest_5 rfl rfl ?_
    refine V.getR (v := 13) fl_X6_28 sh_246 rfl fx_246_1 (by decide) dX6_fairest_6 ?_
    obtain ⟨r25, hc26, hF⟩ := bp_s hF
    refine V.callVi mf_X1_houses ml_X6_136 sh_13 (s_X1_houses (Or.inr rfl) hc26) (by decide) rfl rfl (Nat.le_of_ble_eq_true rfl) dX6_fairest_9 ?_
    refine V.icmp_ge (tgt := 52) dX6_fairest_12 rfl (fun c => ?_) (fun c => ?_)
    · replace hF := (if_pos c).symm.trans hF
      refine V.iload_n 1 dX6_fairest_52 rfl rfl ?_
      cases hF
      exact V.iret dX6_fairest_53
    · replace hF := (if_neg c).symm.trans hF
      refine V.aload_n 0 dX6_fairest_15 rfl rfl ?_
      refine V.getR (v := 27) fl_X6_34 sh_246 rfl fx_246_3 (by decide) dX6_fairest_16 ?_
      refine V.getR (v := 31) fl_X6_179 sh_27 rfl fx_27_3 (by decide) dX6_fairest_19 ?_
      refine V.iload_n 2 dX6_fairest_22 rfl rfl ?_
      obtain ⟨r27, hc28, hF⟩ := bp_s hF
      refine V.callNi mf_X11_at ml_X6_79 (s_X11_at (Or.inl io_31) hc28) (by decide) rfl rfl (Nat.le_of_ble_eq_true rfl) dX6_fairest_23 ?_
      refine V.aload_n 0 dX6_fairest_26 rfl rfl ?_
      refine V.getR (v := 27) fl_X6_34 sh_246 rfl fx_246_3 (by decide) dX6_fairest_27 ?_
      refine V.getR (v := 31) fl_X6_179 sh_27 rfl fx_27_3 (by decide) dX6_fairest_30 ?_
      refine V.iload_n 1 dX6_fairest_33 rfl rfl ?_
      obtain ⟨r29, hc30, hF⟩ := bp_s hF
      refine V.callNi mf_X11_at ml_X6_79 (s_X11_at (Or.inl io_31) hc30) (by decide) rfl rfl (Nat.le_of_ble_eq_true rfl) dX6_fairest_34 ?_
      refine V.icmp_ge (tgt := 44) dX6_fairest_37 rfl (fun c => ?_) (fun c => ?_)
      · replace hF := (if_pos c).symm.trans hF
        refine V.iload_n 1 dX6_fairest_44 rfl rfl ?_
        exact V.sub [0, 2] rfl (v_X6_fairest_45 ih hF)
      · replace hF := (if_neg c).symm.trans hF
        refine V.iload_n 2 dX6_fairest_40 rfl rfl ?_
        refine V.goto (tgt := 45) dX6_fairest_41 rfl ?_
        exact V.sub [0, 2] rfl (v_X6_fairest_45 ih hF)
def X6_fairest (n : Nat) (h : Mm) : Option Int32 := (X6_fairest_4 n n (0) (1) h)
set_option maxRecDepth 100000 in
set_option maxHeartbeats 4000000 in
theorem s_X6_fairest {X : WX} {o : Mm} {n : Nat} {rv : Int32} {h : Mm} (hF : X6_fairest n h = some rv) : Sat X yX6_fairest cX6_fairest 3 (some .int) 3 [.ref (xa X 246)] true o h (some (.int rv)) h := by
  unfold X6_fairest at hF
  refine Sat.mk (own := RX6) rfl (by decide +kernel) (Nat.le_of_ble_eq_true rfl) (fun G => ?_)
  refine V.sub (lv2 := [(0, _)]) [0] rfl ?_
  refine V.iconst (v := 0) dX6_fairest_0 rfl ?_
  refine V.istore_n [(1, _), (0, _)] dX6_fairest_1 rfl (by decide) rfl ?_
  refine V.iconst (v := 1) dX6_fairest_2 rfl ?_
  refine V.istore_n [(2, _), (1, _), (0, _)] dX6_fairest_3 rfl (by decide) rfl ?_
  exact V.sub [2, 1, 0] rfl (v_X6_fairest_4 n _ _ hF)
/-! MonsterCot$Search.strongest -/
theorem dX6_strongest_0 : decode cX6_strongest 0 = .ok (.iconst 0, 1) := by decide +kernel
theorem dX6_strongest_1 : decode cX6_strongest 1 = .ok (.istore_n 1, 1) := by decide +kernel
theorem dX6_strongest_2 : decode cX6_strongest 2 = .ok (.iconst 1, 1) := by decide +kernel
theorem dX6_strongest_3 : decode cX6_strongest 3 = .ok (.istore_n 2, 1) := by decide +kernel
theorem dX6_strongest_4 : decode cX6_strongest 4 = .ok (.iload_n 2, 1) := by decide +kernel
theorem dX6_strongest_5 : decode cX6_strongest 5 = .ok (.aload_n 0, 1) := by decide +kernel
theorem dX6_strongest_6 : decode cX6_strongest 6 = .ok (.getfield 28, 3) := by decide +kernel
theorem dX6_strongest_9 : decode cX6_strongest 9 = .ok (.invokevirtual 136, 3) := by decide +kernel
theorem dX6_strongest_12 : decode cX6_strongest 12 = .ok (.if_icmp .ge 42, 3) := by decide +kernel
theorem dX6_strongest_15 : decode cX6_strongest 15 = .ok (.aload_n 0, 1) := by decide +kernel
theorem dX6_strongest_16 : decode cX6_strongest 16 = .ok (.getfield 18, 3) := by decide +kernel
theorem dX6_strongest_19 : decode cX6_strongest 19 = .ok (.aload_n 0, 1) := by decide +kernel
theorem dX6_strongest_20 : decode cX6_strongest 20 = .ok (.getfield 34, 3) := by decide +kernel
theorem dX6_strongest_23 : decode cX6_strongest 23 = .ok (.iload_n 2, 1) := by decide +kernel
theorem dX6_strongest_24 : decode cX6_strongest 24 = .ok (.invokevirtual 182, 3) := by decide +kernel
theorem dX6_strongest_27 : decode cX6_strongest 27 = .ok (.aload_n 0, 1) := by decide +kernel
theorem dX6_strongest_28 : decode cX6_strongest 28 = .ok (.getfield 18, 3) := by decide +kernel
theorem dX6_strongest_31 : decode cX6_strongest 31 = .ok (.aload_n 0, 1) := by decide +kernel
theorem dX6_strongest_32 : decode cX6_strongest 32 = .ok (.getfield 34, 3) := by decide +kernel
theorem dX6_strongest_35 : decode cX6_strongest 35 = .ok (.iload_n 1, 1) := by decide +kernel
theorem dX6_strongest_36 : decode cX6_strongest 36 = .ok (.invokevirtual 182, 3) := by decide +kernel
theorem dX6_strongest_39 : decode cX6_strongest 39 = .ok (.if_icmp .le 7, 3) := by decide +kernel
theorem dX6_strongest_42 : decode cX6_strongest 42 = .ok (.iload_n 2, 1) := by decide +kernel
theorem dX6_strongest_43 : decode cX6_strongest 43 = .ok (.goto 4, 3) := by decide +kernel
theorem dX6_strongest_46 : decode cX6_strongest 46 = .ok (.iload_n 1, 1) := by decide +kernel
theorem dX6_strongest_47 : decode cX6_strongest 47 = .ok (.istore_n 1, 1) := by decide +kernel
theorem dX6_strongest_48 : decode cX6_strongest 48 = .ok (.iinc 2 1, 3) := by decide +kernel
theorem dX6_strongest_51 : decode cX6_strongest 51 = .ok (.goto (-47), 3) := by decide +kernel
theorem dX6_strongest_54 : decode cX6_strongest 54 = .ok (.iload_n 1, 1) := by decide +kernel
theorem dX6_strongest_55 : decode cX6_strongest 55 = .ok (.ireturn, 1) := by decide +kernel
def X6_strongest_47 (n : Nat) (K4 : Int32 → Int32 → Mm → Option Int32) (x2 : Int32) (s0 : Int32) (h : Mm) : Option Int32 := (K4 s0 (x2 + (1)) h)
set_option maxRecDepth 100000 in
set_option maxHeartbeats 4000000 in
theorem v_X6_strongest_47 {X : WX} {G : GX} {o : Mm} {n : Nat} {K4 : Int32 → Int32 → Mm → Option Int32} {rv : Int32} {h : Mm} (hK4 : ∀ (x1 : Int32) (x2 : Int32), K4 x1 x2 h = some rv → V X G RX6 cX6_strongest 3 (some .int) 5 0 0 (QR X G true o (some (.int rv)) h) true o 4 [(0, .ref (xa X 246)), (1, .int x1), (2, .int x2)] [] h) {x2 : Int32} {s0 : Int32} (hF : X6_strongest_47 n K4 x2 s0 h = some rv) : V X G RX6 cX6_strongest 3 (some .int) 5 0 0 (QR X G true o (some (.int rv)) h) true o 47 [(0, .ref (xa X 246)), (2, .int x2)] [.int s0] h := by
  unfold X6_strongest_47 at hF
  refine V.istore_n [(1, _), (0, _), (2, _)] dX6_strongest_47 rfl (by decide) rfl ?_
  refine V.iinc (v := (x2 + (1))) 2 [(2, _), (1, _), (0, _)] dX6_strongest_48 rfl rfl (by decide) rfl ?_
  refine V.goto (tgt := 4) dX6_strongest_51 rfl ?_
  exact V.sub [2, 1, 0] rfl (hK4 _ _ hF)
def X6_strongest_4 (n : Nat) : Nat → Int32 → Int32 → Mm → Option Int32
  | 0, _, _, _ => none
  | f + 1, x1, x2, h => (bp (X1_houses 13 h) (fun r25 => (if r25 ≤ x2 then (some x1) else (bp (X9_leftOf 27 x2 h) (fun r27 => (bp (X9_leftOf 27 x1 h) (fun r29 => (if r27 ≤ r29 then (X6_strongest_47 n (X6_strongest_4 n f) x2 x1 h) else (X6_strongest_47 n (X6_strongest_4 n f) x2 x2 h)))))))))
set_option maxRecDepth 100000 in
set_option maxHeartbeats 4000000 in
theorem v_X6_strongest_4 {X : WX} {G : GX} {o : Mm} {n : Nat} {rv : Int32} {h : Mm} : ∀ (f : Nat) (x1 : Int32) (x2 : Int32), X6_strongest_4 n f x1 x2 h = some rv → V X G RX6 cX6_strongest 3 (some .int) 5 0 0 (QR X G true o (some (.int rv)) h) true o 4 [(0, .ref (xa X 246)), (1, .int x1), (2, .int x2)] [] h := by
  intro f
  induction f with
  | zero => intro x1 x2 hF; exact nomatch (show (none : Option Int32) = some rv from hF)
  | succ f ih =>
    intro x1 x2 hF
    unfold X6_strongest_4 at hF
    refine V.iload_n 2 dX6_strongest_4 rfl rfl ?_
    refine V.aload_n 0 dX6_strongest_5 rfl rfl ?_
    refine V.getR (v := 13) fl_X6_28 sh_246 rfl fx_246_1 (by decide) dX6_strongest_6 ?_
    obtain ⟨r25, hc26, hF⟩ := bp_s hF
    refine V.callVi mf_X1_houses ml_X6_136 sh_13 (s_X1_houses (Or.inr rfl) hc26) (by decide) rfl rfl (Nat.le_of_ble_eq_true rfl) dX6_strongest_9 ?_
    refine V.icmp_ge (tgt := 54) dX6_strongest_12 rfl (fun c => ?_) (fun c => ?_)
    · replace hF := (if_pos c).symm.trans hF
      refine V.iload_n 1 dX6_strongest_54 rfl rfl ?_
      cases hF
      exact V.iret dX6_strongest_55
    · replace hF := (if_neg c).symm.trans hF
      refine V.aload_n 0 dX6_strongest_15 rfl rfl ?_
      refine V.getR (v := 26) fl_X6_18 sh_246 rfl fx_246_0 (by decide) dX6_strongest_16 ?_
      refine V.aload_n 0 dX6_strongest_19 rfl rfl ?_
      refine V.getR (v := 27) fl_X6_34 sh_246 rfl fx_246_3 (by decide) dX6_strongest_20 ?_
      refine V.iload_n 2 dX6_strongest_23 rfl rfl ?_
      obtain ⟨r27, hc28, hF⟩ := bp_s hF
      refine V.callVi mf_X9_leftOf ml_X6_182 sh_26 (s_X9_leftOf isb_27 hc28) (by decide) rfl rfl (Nat.le_of_ble_eq_true rfl) dX6_strongest_24 ?_
      refine V.aload_n 0 dX6_strongest_27 rfl rfl ?_
      refine V.getR (v := 26) fl_X6_18 sh_246 rfl fx_246_0 (by decide) dX6_strongest_28 ?_
      refine V.aload_n 0 dX6_strongest_31 rfl rfl ?_
      refine V.getR (v := 27) fl_X6_34 sh_246 rfl fx_246_3 (by decide) dX6_strongest_32 ?_
      refine V.iload_n 1 dX6_strongest_35 rfl rfl ?_
      obtain ⟨r29, hc30, hF⟩ := bp_s hF
      refine V.callVi mf_X9_leftOf ml_X6_182 sh_26 (s_X9_leftOf isb_27 hc30) (by decide) rfl rfl (Nat.le_of_ble_eq_true rfl) dX6_strongest_36 ?_
      refine V.icmp_le (tgt := 46) dX6_strongest_39 rfl (fun c => ?_) (fun c => ?_)
      · replace hF := (if_pos c).symm.trans hF
        refine V.iload_n 1 dX6_strongest_46 rfl rfl ?_
        exact V.sub [0, 2] rfl (v_X6_strongest_47 ih hF)
      · replace hF := (if_neg c).symm.trans hF
        refine V.iload_n 2 dX6_strongest_42 rfl rfl ?_
        refine V.goto (tgt := 47) dX6_strongest_43 rfl ?_
        exact V.sub [0, 2] rfl (v_X6_strongest_47 ih hF)
def X6_strongest (n : Nat) (h : Mm) : Option Int32 := (X6_strongest_4 n n (0) (1) h)
set_option maxRecDepth 100000 in
set_option maxHeartbeats 4000000 in
theorem s_X6_strongest {X : WX} {o : Mm} {n : Nat} {rv : Int32} {h : Mm} (hF : X6_strongest n h = some rv) : Sat X yX6_strongest cX6_strongest 3 (some .int) 5 [.ref (xa X 246)] true o h (some (.int rv)) h := by
  unfold X6_strongest at hF
  refine Sat.mk (own := RX6) rfl (by decide +kernel) (Nat.le_of_ble_eq_true rfl) (fun G => ?_)
  refine V.sub (lv2 := [(0, _)]) [0] rfl ?_
  refine V.iconst (v := 0) dX6_strongest_0 rfl ?_
  refine V.istore_n [(1, _), (0, _)] dX6_strongest_1 rfl (by decide) rfl ?_
  refine V.iconst (v := 1) dX6_strongest_2 rfl ?_
  refine V.istore_n [(2, _), (1, _), (0, _)] dX6_strongest_3 rfl (by decide) rfl ?_
  exact V.sub [2, 1, 0] rfl (v_X6_strongest_4 n _ _ hF)
/-! MonsterCot$Search.loudest -/
theorem dX6_loudest_0 : decode cX6_loudest 0 = .ok (.iconst 0, 1) := by decide +kernel
theorem dX6_loudest_1 : decode cX6_loudest 1 = .ok (.istore_n 1, 1) := by decide +kernel
theorem dX6_loudest_2 : decode cX6_loudest 2 = .ok (.iconst 1, 1) := by decide +kernel
theorem dX6_loudest_3 : decode cX6_loudest 3 = .ok (.istore_n 2, 1) := by decide +kernel
theorem dX6_loudest_4 : decode cX6_loudest 4 = .ok (.iload_n 2, 1) := by decide +kernel
theorem dX6_loudest_5 : decode cX6_loudest 5 = .ok (.aload_n 0, 1) := by decide +kernel
theorem dX6_loudest_6 : decode cX6_loudest 6 = .ok (.getfield 28, 3) := by decide +kernel
theorem dX6_loudest_9 : decode cX6_loudest 9 = .ok (.invokevirtual 136, 3) := by decide +kernel
theorem dX6_loudest_12 : decode cX6_loudest 12 = .ok (.if_icmp .ge 40, 3) := by decide +kernel
theorem dX6_loudest_15 : decode cX6_loudest 15 = .ok (.aload_n 0, 1) := by decide +kernel
theorem dX6_loudest_16 : decode cX6_loudest 16 = .ok (.getfield 34, 3) := by decide +kernel
theorem dX6_loudest_19 : decode cX6_loudest 19 = .ok (.getfield 83, 3) := by decide +kernel
theorem dX6_loudest_22 : decode cX6_loudest 22 = .ok (.iload_n 2, 1) := by decide +kernel
theorem dX6_loudest_23 : decode cX6_loudest 23 = .ok (.invokestatic 79, 3) := by decide +kernel
theorem dX6_loudest_26 : decode cX6_loudest 26 = .ok (.aload_n 0, 1) := by decide +kernel
theorem dX6_loudest_27 : decode cX6_loudest 27 = .ok (.getfield 34, 3) := by decide +kernel
theorem dX6_loudest_30 : decode cX6_loudest 30 = .ok (.getfield 83, 3) := by decide +kernel
theorem dX6_loudest_33 : decode cX6_loudest 33 = .ok (.iload_n 1, 1) := by decide +kernel
theorem dX6_loudest_34 : decode cX6_loudest 34 = .ok (.invokestatic 79, 3) := by decide +kernel
theorem dX6_loudest_37 : decode cX6_loudest 37 = .ok (.if_icmp .le 7, 3) := by decide +kernel
theorem dX6_loudest_40 : decode cX6_loudest 40 = .ok (.iload_n 2, 1) := by decide +kernel
theorem dX6_loudest_41 : decode cX6_loudest 41 = .ok (.goto 4, 3) := by decide +kernel
theorem dX6_loudest_44 : decode cX6_loudest 44 = .ok (.iload_n 1, 1) := by decide +kernel
theorem dX6_loudest_45 : decode cX6_loudest 45 = .ok (.istore_n 1, 1) := by decide +kernel
theorem dX6_loudest_46 : decode cX6_loudest 46 = .ok (.iinc 2 1, 3) := by decide +kernel
theorem dX6_loudest_49 : decode cX6_loudest 49 = .ok (.goto (-45), 3) := by decide +kernel
theorem dX6_loudest_52 : decode cX6_loudest 52 = .ok (.iload_n 1, 1) := by decide +kernel
theorem dX6_loudest_53 : decode cX6_loudest 53 = .ok (.ireturn, 1) := by decide +kernel
def X6_loudest_45 (n : Nat) (K4 : Int32 → Int32 → Mm → Option Int32) (x2 : Int32) (s0 : Int32) (h : Mm) : Option Int32 := (K4 s0 (x2 + (1)) h)
set_option maxRecDepth 100000 in
set_option maxHeartbeats 4000000 in
theorem v_X6_loudest_45 {X : WX} {G : GX} {o : Mm} {n : Nat} {K4 : Int32 → Int32 → Mm → Option Int32} {rv : Int32} {h : Mm} (hK4 : ∀ (x1 : Int32) (x2 : Int32), K4 x1 x2 h = some rv → V X G RX6 cX6_loudest 3 (some .int) 3 0 0 (QR X G true o (some (.int rv)) h) true o 4 [(0, .ref (xa X 246)), (1, .int x1), (2, .int x2)] [] h) {x2 : Int32} {s0 : Int32} (hF : X6_loudest_45 n K4 x2 s0 h = some rv) : V X G RX6 cX6_loudest 3 (some .int) 3 0 0 (QR X G true o (some (.int rv)) h) true o 45 [(0, .ref (xa X 246)), (2, .int x2)] [.int s0] h := by
  unfold X6_loudest_45 at hF
  refine V.istore_n [(1, _), (0, _), (2, _)] dX6_loudest_45 rfl (by decide) rfl ?_
  refine V.iinc (v := (x2 + (1))) 2 [(2, _), (1, _), (0, _)] dX6_loudest_46 rfl rfl (by decide) rfl ?_
  refine V.goto (tgt := 4) dX6_loudest_49 rfl ?_
  exact V.sub [2, 1, 0] rfl (hK4 _ _ hF)
def X6_loudest_4 (n : Nat) : Nat → Int32 → Int32 → Mm → Option Int32
  | 0, _, _, _ => none
  | f + 1, x1, x2, h => (bp (X1_houses 13 h) (fun r25 => (if r25 ≤ x2 then (some x1) else (bp (X11_at 30 x2 h) (fun r27 => (bp (X11_at 30 x1 h) (fun r29 => (if r27 ≤ r29 then (X6_loudest_45 n (X6_loudest_4 n f) x2 x1 h) else (X6_loudest_45 n (X6_loudest_4 n f) x2 x2 h)))))))))
set_option maxRecDepth 100000 in
set_option maxHeartbeats 4000000 in
theorem v_X6_loudest_4 {X : WX} {G : GX} {o : Mm} {n : Nat} {rv : Int32} {h : Mm} : ∀ (f : Nat) (x1 : Int32) (x2 : Int32), X6_loudest_4 n f x1 x2 h = some rv → V X G RX6 cX6_loudest 3 (some .int) 3 0 0 (QR X G true o (some (.int rv)) h) true o 4 [(0, .ref (xa X 246)), (1, .int x1), (2, .int x2)] [] h := by
  intro f
  induction f with
  | zero => intro x1 x2 hF; exact nomatch (show (none : Option Int32) = some rv from hF)
  | succ f ih =>
    intro x1 x2 hF
    unfold X6_loudest_4 at hF
    refine V.iload_n 2 dX6_loudest_4 rfl rfl ?_
    refine V.aload_n 0 dX6_loudest_5 rfl rfl ?_
    refine V.getR (v := 13) fl_X6_28 sh_246 rfl fx_246_1 (by decide) dX6_loudest_6 ?_
    obtain ⟨r25, hc26, hF⟩ := bp_s hF
    refine V.callVi mf_X1_houses ml_X6_136 sh_13 (s_X1_houses (Or.inr rfl) hc26) (by decide) rfl rfl (Nat.le_of_ble_eq_true rfl) dX6_loudest_9 ?_
    refine V.icmp_ge (tgt := 52) dX6_loudest_12 rfl (fun c => ?_) (fun c => ?_)
    · replace hF := (if_pos c).symm.trans hF
      refine V.iload_n 1 dX6_loudest_52 rfl rfl ?_
      cases hF
      exact V.iret dX6_loudest_53
    · replace hF := (if_neg c).symm.trans hF
      refine V.aload_n 0 dX6_loudest_15 rfl rfl ?_
      refine V.getR (v := 27) fl_X6_34 sh_246 rfl fx_246_3 (by decide) dX6_loudest_16 ?_
      refine V.getR (v := 30) fl_X6_83 sh_27 rfl fx_27_2 (by decide) dX6_loudest_19 ?_
      refine V.iload_n 2 dX6_loudest_22 rfl rfl ?_
      obtain ⟨r27, hc28, hF⟩ := bp_s hF
      refine V.callNi mf_X11_at ml_X6_79 (s_X11_at (Or.inl io_30) hc28) (by decide) rfl rfl (Nat.le_of_ble_eq_true rfl) dX6_loudest_23 ?_
      refine V.aload_n 0 dX6_loudest_26 rfl rfl ?_
      refine V.getR (v := 27) fl_X6_34 sh_246 rfl fx_246_3 (by decide) dX6_loudest_27 ?_
      refine V.getR (v := 30) fl_X6_83 sh_27 rfl fx_27_2 (by decide) dX6_loudest_30 ?_
      refine V.iload_n 1 dX6_loudest_33 rfl rfl ?_
      obtain ⟨r29, hc30, hF⟩ := bp_s hF
      refine V.callNi mf_X11_at ml_X6_79 (s_X11_at (Or.inl io_30) hc30) (by decide) rfl rfl (Nat.le_of_ble_eq_true rfl) dX6_loudest_34 ?_
      refine V.icmp_le (tgt := 44) dX6_loudest_37 rfl (fun c => ?_) (fun c => ?_)
      · replace hF := (if_pos c).symm.trans hF
        refine V.iload_n 1 dX6_loudest_44 rfl rfl ?_
        exact V.sub [0, 2] rfl (v_X6_loudest_45 ih hF)
      · replace hF := (if_neg c).symm.trans hF
        refine V.iload_n 2 dX6_loudest_40 rfl rfl ?_
        refine V.goto (tgt := 45) dX6_loudest_41 rfl ?_
        exact V.sub [0, 2] rfl (v_X6_loudest_45 ih hF)
def X6_loudest (n : Nat) (h : Mm) : Option Int32 := (X6_loudest_4 n n (0) (1) h)
set_option maxRecDepth 100000 in
set_option maxHeartbeats 4000000 in
theorem s_X6_loudest {X : WX} {o : Mm} {n : Nat} {rv : Int32} {h : Mm} (hF : X6_loudest n h = some rv) : Sat X yX6_loudest cX6_loudest 3 (some .int) 3 [.ref (xa X 246)] true o h (some (.int rv)) h := by
  unfold X6_loudest at hF
  refine Sat.mk (own := RX6) rfl (by decide +kernel) (Nat.le_of_ble_eq_true rfl) (fun G => ?_)
  refine V.sub (lv2 := [(0, _)]) [0] rfl ?_
  refine V.iconst (v := 0) dX6_loudest_0 rfl ?_
  refine V.istore_n [(1, _), (0, _)] dX6_loudest_1 rfl (by decide) rfl ?_
  refine V.iconst (v := 1) dX6_loudest_2 rfl ?_
  refine V.istore_n [(2, _), (1, _), (0, _)] dX6_loudest_3 rfl (by decide) rfl ?_
  exact V.sub [2, 1, 0] rfl (v_X6_loudest_4 n _ _ hF)
/-! MonsterCot$Search.fullest -/
theorem dX6_fullest_0 : decode cX6_fullest 0 = .ok (.iconst 0, 1) := by decide +kernel
theorem dX6_fullest_1 : decode cX6_fullest 1 = .ok (.istore_n 1, 1) := by decide +kernel
theorem dX6_fullest_2 : decode cX6_fullest 2 = .ok (.iconst 1, 1) := by decide +kernel
theorem dX6_fullest_3 : decode cX6_fullest 3 = .ok (.istore_n 2, 1) := by decide +kernel
theorem dX6_fullest_4 : decode cX6_fullest 4 = .ok (.iload_n 2, 1) := by decide +kernel
theorem dX6_fullest_5 : decode cX6_fullest 5 = .ok (.aload_n 0, 1) := by decide +kernel
theorem dX6_fullest_6 : decode cX6_fullest 6 = .ok (.getfield 28, 3) := by decide +kernel
theorem dX6_fullest_9 : decode cX6_fullest 9 = .ok (.invokevirtual 136, 3) := by decide +kernel
theorem dX6_fullest_12 : decode cX6_fullest 12 = .ok (.if_icmp .ge 34, 3) := by decide +kernel
theorem dX6_fullest_15 : decode cX6_fullest 15 = .ok (.aload_n 0, 1) := by decide +kernel
theorem dX6_fullest_16 : decode cX6_fullest 16 = .ok (.getfield 28, 3) := by decide +kernel
theorem dX6_fullest_19 : decode cX6_fullest 19 = .ok (.iload_n 2, 1) := by decide +kernel
theorem dX6_fullest_20 : decode cX6_fullest 20 = .ok (.invokevirtual 153, 3) := by decide +kernel
theorem dX6_fullest_23 : decode cX6_fullest 23 = .ok (.aload_n 0, 1) := by decide +kernel
theorem dX6_fullest_24 : decode cX6_fullest 24 = .ok (.getfield 28, 3) := by decide +kernel
theorem dX6_fullest_27 : decode cX6_fullest 27 = .ok (.iload_n 1, 1) := by decide +kernel
theorem dX6_fullest_28 : decode cX6_fullest 28 = .ok (.invokevirtual 153, 3) := by decide +kernel
theorem dX6_fullest_31 : decode cX6_fullest 31 = .ok (.if_icmp .le 7, 3) := by decide +kernel
theorem dX6_fullest_34 : decode cX6_fullest 34 = .ok (.iload_n 2, 1) := by decide +kernel
theorem dX6_fullest_35 : decode cX6_fullest 35 = .ok (.goto 4, 3) := by decide +kernel
theorem dX6_fullest_38 : decode cX6_fullest 38 = .ok (.iload_n 1, 1) := by decide +kernel
theorem dX6_fullest_39 : decode cX6_fullest 39 = .ok (.istore_n 1, 1) := by decide +kernel
theorem dX6_fullest_40 : decode cX6_fullest 40 = .ok (.iinc 2 1, 3) := by decide +kernel
theorem dX6_fullest_43 : decode cX6_fullest 43 = .ok (.goto (-39), 3) := by decide +kernel
theorem dX6_fullest_46 : decode cX6_fullest 46 = .ok (.iload_n 1, 1) := by decide +kernel
theorem dX6_fullest_47 : decode cX6_fullest 47 = .ok (.ireturn, 1) := by decide +kernel
def X6_fullest_39 (n : Nat) (K4 : Int32 → Int32 → Mm → Option Int32) (x2 : Int32) (s0 : Int32) (h : Mm) : Option Int32 := (K4 s0 (x2 + (1)) h)
set_option maxRecDepth 100000 in
set_option maxHeartbeats 4000000 in
theorem v_X6_fullest_39 {X : WX} {G : GX} {o : Mm} {n : Nat} {K4 : Int32 → Int32 → Mm → Option Int32} {rv : Int32} {h : Mm} (hK4 : ∀ (x1 : Int32) (x2 : Int32), K4 x1 x2 h = some rv → V X G RX6 cX6_fullest 3 (some .int) 4 0 0 (QR X G true o (some (.int rv)) h) true o 4 [(0, .ref (xa X 246)), (1, .int x1), (2, .int x2)] [] h) {x2 : Int32} {s0 : Int32} (hF : X6_fullest_39 n K4 x2 s0 h = some rv) : V X G RX6 cX6_fullest 3 (some .int) 4 0 0 (QR X G true o (some (.int rv)) h) true o 39 [(0, .ref (xa X 246)), (2, .int x2)] [.int s0] h := by
  unfold X6_fullest_39 at hF
  refine V.istore_n [(1, _), (0, _), (2, _)] dX6_fullest_39 rfl (by decide) rfl ?_
  refine V.iinc (v := (x2 + (1))) 2 [(2, _), (1, _), (0, _)] dX6_fullest_40 rfl rfl (by decide) rfl ?_
  refine V.goto (tgt := 4) dX6_fullest_43 rfl ?_
  exact V.sub [2, 1, 0] rfl (hK4 _ _ hF)
def X6_fullest_4 (n : Nat) : Nat → Int32 → Int32 → Mm → Option Int32
  | 0, _, _, _ => none
  | f + 1, x1, x2, h => (bp (X1_houses 13 h) (fun r25 => (if r25 ≤ x2 then (some x1) else (bp (X1_childrenOf 13 x2 h) (fun r27 => (bp (X1_childrenOf 13 x1 h) (fun r29 => (if r27 ≤ r29 then (X6_fullest_39 n (X6_fullest_4 n f) x2 x1 h) else (X6_fullest_39 n (X6_fullest_4 n f) x2 x2 h)))))))))
set_option maxRecDepth 100000 in
set_option maxHeartbeats 4000000 in
theorem v_X6_fullest_4 {X : WX} {G : GX} {o : Mm} {n : Nat} {rv : Int32} {h : Mm} : ∀ (f : Nat) (x1 : Int32) (x2 : Int32), X6_fullest_4 n f x1 x2 h = some rv → V X G RX6 cX6_fullest 3 (some .int) 4 0 0 (QR X G true o (some (.int rv)) h) true o 4 [(0, .ref (xa X 246)), (1, .int x1), (2, .int x2)] [] h := by
  intro f
  induction f with
  | zero => intro x1 x2 hF; exact nomatch (show (none : Option Int32) = some rv from hF)
  | succ f ih =>
    intro x1 x2 hF
    unfold X6_fullest_4 at hF
    refine V.iload_n 2 dX6_fullest_4 rfl rfl ?_
    refine V.aload_n 0 dX6_fullest_5 rfl rfl ?_
    refine V.getR (v := 13) fl_X6_28 sh_246 rfl fx_246_1 (by decide) dX6_fullest_6 ?_
    obtain ⟨r25, hc26, hF⟩ := bp_s hF
    refine V.callVi mf_X1_houses ml_X6_136 sh_13 (s_X1_houses (Or.inr rfl) hc26) (by decide) rfl rfl (Nat.le_of_ble_eq_true rfl) dX6_fullest_9 ?_
    refine V.icmp_ge (tgt := 46) dX6_fullest_12 rfl (fun c => ?_) (fun c => ?_)
    · replace hF := (if_pos c).symm.trans hF
      refine V.iload_n 1 dX6_fullest_46 rfl rfl ?_
      cases hF
      exact V.iret dX6_fullest_47
    · replace hF := (if_neg c).symm.trans hF
      refine V.aload_n 0 dX6_fullest_15 rfl rfl ?_
      refine V.getR (v := 13) fl_X6_28 sh_246 rfl fx_246_1 (by decide) dX6_fullest_16 ?_
      refine V.iload_n 2 dX6_fullest_19 rfl rfl ?_
      obtain ⟨r27, hc28, hF⟩ := bp_s hF
      refine V.callVi mf_X1_childrenOf ml_X6_153 sh_13 (s_X1_childrenOf (Or.inr rfl) hc28) (by decide) rfl rfl (Nat.le_of_ble_eq_true rfl) dX6_fullest_20 ?_
      refine V.aload_n 0 dX6_fullest_23 rfl rfl ?_
      refine V.getR (v := 13) fl_X6_28 sh_246 rfl fx_246_1 (by decide) dX6_fullest_24 ?_
      refine V.iload_n 1 dX6_fullest_27 rfl rfl ?_
      obtain ⟨r29, hc30, hF⟩ := bp_s hF
      refine V.callVi mf_X1_childrenOf ml_X6_153 sh_13 (s_X1_childrenOf (Or.inr rfl) hc30) (by decide) rfl rfl (Nat.le_of_ble_eq_true rfl) dX6_fullest_28 ?_
      refine V.icmp_le (tgt := 38) dX6_fullest_31 rfl (fun c => ?_) (fun c => ?_)
      · replace hF := (if_pos c).symm.trans hF
        refine V.iload_n 1 dX6_fullest_38 rfl rfl ?_
        exact V.sub [0, 2] rfl (v_X6_fullest_39 ih hF)
      · replace hF := (if_neg c).symm.trans hF
        refine V.iload_n 2 dX6_fullest_34 rfl rfl ?_
        refine V.goto (tgt := 39) dX6_fullest_35 rfl ?_
        exact V.sub [0, 2] rfl (v_X6_fullest_39 ih hF)
def X6_fullest (n : Nat) (h : Mm) : Option Int32 := (X6_fullest_4 n n (0) (1) h)
set_option maxRecDepth 100000 in
set_option maxHeartbeats 4000000 in
theorem s_X6_fullest {X : WX} {o : Mm} {n : Nat} {rv : Int32} {h : Mm} (hF : X6_fullest n h = some rv) : Sat X yX6_fullest cX6_fullest 3 (some .int) 4 [.ref (xa X 246)] true o h (some (.int rv)) h := by
  unfold X6_fullest at hF
  refine Sat.mk (own := RX6) rfl (by decide +kernel) (Nat.le_of_ble_eq_true rfl) (fun G => ?_)
  refine V.sub (lv2 := [(0, _)]) [0] rfl ?_
  refine V.iconst (v := 0) dX6_fullest_0 rfl ?_
  refine V.istore_n [(1, _), (0, _)] dX6_fullest_1 rfl (by decide) rfl ?_
  refine V.iconst (v := 1) dX6_fullest_2 rfl ?_
  refine V.istore_n [(2, _), (1, _), (0, _)] dX6_fullest_3 rfl (by decide) rfl ?_
  exact V.sub [2, 1, 0] rfl (v_X6_fullest_4 n _ _ hF)
/-! MonsterCot$Search.longest -/
theorem dX6_longest_0 : decode cX6_longest 0 = .ok (.iconst 0, 1) := by decide +kernel
theorem dX6_longest_1 : decode cX6_longest 1 = .ok (.istore_n 1, 1) := by decide +kernel
theorem dX6_longest_2 : decode cX6_longest 2 = .ok (.iconst 1, 1) := by decide +kernel
theorem dX6_longest_3 : decode cX6_longest 3 = .ok (.istore_n 2, 1) := by decide +kernel
theorem dX6_longest_4 : decode cX6_longest 4 = .ok (.iload_n 2, 1) := by decide +kernel
theorem dX6_longest_5 : decode cX6_longest 5 = .ok (.aload_n 0, 1) := by decide +kernel
theorem dX6_longest_6 : decode cX6_longest 6 = .ok (.getfield 28, 3) := by decide +kernel
theorem dX6_longest_9 : decode cX6_longest 9 = .ok (.invokevirtual 59, 3) := by decide +kernel
theorem dX6_longest_12 : decode cX6_longest 12 = .ok (.if_icmp .ge 34, 3) := by decide +kernel
theorem dX6_longest_15 : decode cX6_longest 15 = .ok (.aload_n 0, 1) := by decide +kernel
theorem dX6_longest_16 : decode cX6_longest 16 = .ok (.getfield 28, 3) := by decide +kernel
theorem dX6_longest_19 : decode cX6_longest 19 = .ok (.iload_n 2, 1) := by decide +kernel
theorem dX6_longest_20 : decode cX6_longest 20 = .ok (.invokevirtual 95, 3) := by decide +kernel
theorem dX6_longest_23 : decode cX6_longest 23 = .ok (.aload_n 0, 1) := by decide +kernel
theorem dX6_longest_24 : decode cX6_longest 24 = .ok (.getfield 28, 3) := by decide +kernel
theorem dX6_longest_27 : decode cX6_longest 27 = .ok (.iload_n 1, 1) := by decide +kernel
theorem dX6_longest_28 : decode cX6_longest 28 = .ok (.invokevirtual 95, 3) := by decide +kernel
theorem dX6_longest_31 : decode cX6_longest 31 = .ok (.if_icmp .le 7, 3) := by decide +kernel
theorem dX6_longest_34 : decode cX6_longest 34 = .ok (.iload_n 2, 1) := by decide +kernel
theorem dX6_longest_35 : decode cX6_longest 35 = .ok (.goto 4, 3) := by decide +kernel
theorem dX6_longest_38 : decode cX6_longest 38 = .ok (.iload_n 1, 1) := by decide +kernel
theorem dX6_longest_39 : decode cX6_longest 39 = .ok (.istore_n 1, 1) := by decide +kernel
theorem dX6_longest_40 : decode cX6_longest 40 = .ok (.iinc 2 1, 3) := by decide +kernel
theorem dX6_longest_43 : decode cX6_longest 43 = .ok (.goto (-39), 3) := by decide +kernel
theorem dX6_longest_46 : decode cX6_longest 46 = .ok (.iload_n 1, 1) := by decide +kernel
theorem dX6_longest_47 : decode cX6_longest 47 = .ok (.ireturn, 1) := by decide +kernel
def X6_longest_39 (n : Nat) (K4 : Int32 → Int32 → Mm → Option Int32) (x2 : Int32) (s0 : Int32) (h : Mm) : Option Int32 := (K4 s0 (x2 + (1)) h)
set_option maxRecDepth 100000 in
set_option maxHeartbeats 4000000 in
theorem v_X6_longest_39 {X : WX} {G : GX} {o : Mm} {n : Nat} {K4 : Int32 → Int32 → Mm → Option Int32} {rv : Int32} {h : Mm} (hK4 : ∀ (x1 : Int32) (x2 : Int32), K4 x1 x2 h = some rv → V X G RX6 cX6_longest 3 (some .int) 4 0 0 (QR X G true o (some (.int rv)) h) true o 4 [(0, .ref (xa X 246)), (1, .int x1), (2, .int x2)] [] h) {x2 : Int32} {s0 : Int32} (hF : X6_longest_39 n K4 x2 s0 h = some rv) : V X G RX6 cX6_longest 3 (some .int) 4 0 0 (QR X G true o (some (.int rv)) h) true o 39 [(0, .ref (xa X 246)), (2, .int x2)] [.int s0] h := by
  unfold X6_longest_39 at hF
  refine V.istore_n [(1, _), (0, _), (2, _)] dX6_longest_39 rfl (by decide) rfl ?_
  refine V.iinc (v := (x2 + (1))) 2 [(2, _), (1, _), (0, _)] dX6_longest_40 rfl rfl (by decide) rfl ?_
  refine V.goto (tgt := 4) dX6_longest_43 rfl ?_
  exact V.sub [2, 1, 0] rfl (hK4 _ _ hF)
def X6_longest_4 (n : Nat) : Nat → Int32 → Int32 → Mm → Option Int32
  | 0, _, _, _ => none
  | f + 1, x1, x2, h => (bp (X1_books 13 h) (fun r25 => (if r25 ≤ x2 then (some x1) else (bp (X1_pagesOf 13 x2 h) (fun r27 => (bp (X1_pagesOf 13 x1 h) (fun r29 => (if r27 ≤ r29 then (X6_longest_39 n (X6_longest_4 n f) x2 x1 h) else (X6_longest_39 n (X6_longest_4 n f) x2 x2 h)))))))))
set_option maxRecDepth 100000 in
set_option maxHeartbeats 4000000 in
theorem v_X6_longest_4 {X : WX} {G : GX} {o : Mm} {n : Nat} {rv : Int32} {h : Mm} : ∀ (f : Nat) (x1 : Int32) (x2 : Int32), X6_longest_4 n f x1 x2 h = some rv → V X G RX6 cX6_longest 3 (some .int) 4 0 0 (QR X G true o (some (.int rv)) h) true o 4 [(0, .ref (xa X 246)), (1, .int x1), (2, .int x2)] [] h := by
  intro f
  induction f with
  | zero => intro x1 x2 hF; exact nomatch (show (none : Option Int32) = some rv from hF)
  | succ f ih =>
    intro x1 x2 hF
    unfold X6_longest_4 at hF
    refine V.iload_n 2 dX6_longest_4 rfl rfl ?_
    refine V.aload_n 0 dX6_longest_5 rfl rfl ?_
    refine V.getR (v := 13) fl_X6_28 sh_246 rfl fx_246_1 (by decide) dX6_longest_6 ?_
    obtain ⟨r25, hc26, hF⟩ := bp_s hF
    refine V.callVi mf_X1_books ml_X6_59 sh_13 (s_X1_books (Or.inr rfl) hc26) (by decide) rfl rfl (Nat.le_of_ble_eq_true rfl) dX6_longest_9 ?_
    refine V.icmp_ge (tgt := 46) dX6_longest_12 rfl (fun c => ?_) (fun c => ?_)
    · replace hF := (if_pos c).symm.trans hF
      refine V.iload_n 1 dX6_longest_46 rfl rfl ?_
      cases hF
      exact V.iret dX6_longest_47
    · replace hF := (if_neg c).symm.trans hF
      refine V.aload_n 0 dX6_longest_15 rfl rfl ?_
      refine V.getR (v := 13) fl_X6_28 sh_246 rfl fx_246_1 (by decide) dX6_longest_16 ?_
      refine V.iload_n 2 dX6_longest_19 rfl rfl ?_
      obtain ⟨r27, hc28, hF⟩ := bp_s hF
      refine V.callVi mf_X1_pagesOf ml_X6_95 sh_13 (s_X1_pagesOf (Or.inr rfl) hc28) (by decide) rfl rfl (Nat.le_of_ble_eq_true rfl) dX6_longest_20 ?_
      refine V.aload_n 0 dX6_longest_23 rfl rfl ?_
      refine V.getR (v := 13) fl_X6_28 sh_246 rfl fx_246_1 (by decide) dX6_longest_24 ?_
      refine V.iload_n 1 dX6_longest_27 rfl rfl ?_
      obtain ⟨r29, hc30, hF⟩ := bp_s hF
      refine V.callVi mf_X1_pagesOf ml_X6_95 sh_13 (s_X1_pagesOf (Or.inr rfl) hc30) (by decide) rfl rfl (Nat.le_of_ble_eq_true rfl) dX6_longest_28 ?_
      refine V.icmp_le (tgt := 38) dX6_longest_31 rfl (fun c => ?_) (fun c => ?_)
      · replace hF := (if_pos c).symm.trans hF
        refine V.iload_n 1 dX6_longest_38 rfl rfl ?_
        exact V.sub [0, 2] rfl (v_X6_longest_39 ih hF)
      · replace hF := (if_neg c).symm.trans hF
        refine V.iload_n 2 dX6_longest_34 rfl rfl ?_
        refine V.goto (tgt := 39) dX6_longest_35 rfl ?_
        exact V.sub [0, 2] rfl (v_X6_longest_39 ih hF)
def X6_longest (n : Nat) (h : Mm) : Option Int32 := (X6_longest_4 n n (0) (1) h)
set_option maxRecDepth 100000 in
set_option maxHeartbeats 4000000 in
theorem s_X6_longest {X : WX} {o : Mm} {n : Nat} {rv : Int32} {h : Mm} (hF : X6_longest n h = some rv) : Sat X yX6_longest cX6_longest 3 (some .int) 4 [.ref (xa X 246)] true o h (some (.int rv)) h := by
  unfold X6_longest at hF
  refine Sat.mk (own := RX6) rfl (by decide +kernel) (Nat.le_of_ble_eq_true rfl) (fun G => ?_)
  refine V.sub (lv2 := [(0, _)]) [0] rfl ?_
  refine V.iconst (v := 0) dX6_longest_0 rfl ?_
  refine V.istore_n [(1, _), (0, _)] dX6_longest_1 rfl (by decide) rfl ?_
  refine V.iconst (v := 1) dX6_longest_2 rfl ?_
  refine V.istore_n [(2, _), (1, _), (0, _)] dX6_longest_3 rfl (by decide) rfl ?_
  exact V.sub [2, 1, 0] rfl (v_X6_longest_4 n _ _ hF)
/-! MonsterCot$Search.freshKinds -/
theorem dX6_freshKinds_0 : decode cX6_freshKinds 0 = .ok (.iconst 0, 1) := by decide +kernel
theorem dX6_freshKinds_1 : decode cX6_freshKinds 1 = .ok (.istore_n 1, 1) := by decide +kernel
theorem dX6_freshKinds_2 : decode cX6_freshKinds 2 = .ok (.iconst 0, 1) := by decide +kernel
theorem dX6_freshKinds_3 : decode cX6_freshKinds 3 = .ok (.istore_n 2, 1) := by decide +kernel
theorem dX6_freshKinds_4 : decode cX6_freshKinds 4 = .ok (.iload_n 2, 1) := by decide +kernel
theorem dX6_freshKinds_5 : decode cX6_freshKinds 5 = .ok (.iconst 4, 1) := by decide +kernel
theorem dX6_freshKinds_6 : decode cX6_freshKinds 6 = .ok (.if_icmp .ge 33, 3) := by decide +kernel
theorem dX6_freshKinds_9 : decode cX6_freshKinds 9 = .ok (.iload_n 1, 1) := by decide +kernel
theorem dX6_freshKinds_10 : decode cX6_freshKinds 10 = .ok (.aload_n 0, 1) := by decide +kernel
theorem dX6_freshKinds_11 : decode cX6_freshKinds 11 = .ok (.getfield 34, 3) := by decide +kernel
theorem dX6_freshKinds_14 : decode cX6_freshKinds 14 = .ok (.getfield 45, 3) := by decide +kernel
theorem dX6_freshKinds_17 : decode cX6_freshKinds 17 = .ok (.iload_n 2, 1) := by decide +kernel
theorem dX6_freshKinds_18 : decode cX6_freshKinds 18 = .ok (.invokestatic 79, 3) := by decide +kernel
theorem dX6_freshKinds_21 : decode cX6_freshKinds 21 = .ok (.ifCond .ne 9, 3) := by decide +kernel
theorem dX6_freshKinds_24 : decode cX6_freshKinds 24 = .ok (.iconst 1, 1) := by decide +kernel
theorem dX6_freshKinds_25 : decode cX6_freshKinds 25 = .ok (.iload_n 2, 1) := by decide +kernel
theorem dX6_freshKinds_26 : decode cX6_freshKinds 26 = .ok (.ishl, 1) := by decide +kernel
theorem dX6_freshKinds_27 : decode cX6_freshKinds 27 = .ok (.goto 4, 3) := by decide +kernel
theorem dX6_freshKinds_30 : decode cX6_freshKinds 30 = .ok (.iconst 0, 1) := by decide +kernel
theorem dX6_freshKinds_31 : decode cX6_freshKinds 31 = .ok (.ior, 1) := by decide +kernel
theorem dX6_freshKinds_32 : decode cX6_freshKinds 32 = .ok (.istore_n 1, 1) := by decide +kernel
theorem dX6_freshKinds_33 : decode cX6_freshKinds 33 = .ok (.iinc 2 1, 3) := by decide +kernel
theorem dX6_freshKinds_36 : decode cX6_freshKinds 36 = .ok (.goto (-32), 3) := by decide +kernel
theorem dX6_freshKinds_39 : decode cX6_freshKinds 39 = .ok (.iload_n 1, 1) := by decide +kernel
theorem dX6_freshKinds_40 : decode cX6_freshKinds 40 = .ok (.ireturn, 1) := by decide +kernel
def X6_freshKinds_31 (n : Nat) (K4 : Int32 → Int32 → Mm → Option Int32) (x2 : Int32) (s0 : Int32) (s1 : Int32) (h : Mm) : Option Int32 := (K4 (s0 ||| s1) (x2 + (1)) h)
set_option maxRecDepth 100000 in
set_option maxHeartbeats 4000000 in
theorem v_X6_freshKinds_31 {X : WX} {G : GX} {o : Mm} {n : Nat} {K4 : Int32 → Int32 → Mm → Option Int32} {rv : Int32} {h : Mm} (hK4 : ∀ (x1 : Int32) (x2 : Int32), K4 x1 x2 h = some rv → V X G RX6 cX6_freshKinds 3 (some .int) 2 0 0 (QR X G true o (some (.int rv)) h) true o 4 [(0, .ref (xa X 246)), (1, .int x1), (2, .int x2)] [] h) {x2 : Int32} {s0 : Int32} {s1 : Int32} (hF : X6_freshKinds_31 n K4 x2 s0 s1 h = some rv) : V X G RX6 cX6_freshKinds 3 (some .int) 2 0 0 (QR X G true o (some (.int rv)) h) true o 31 [(0, .ref (xa X 246)), (2, .int x2)] [.int s1, .int s0] h := by
  unfold X6_freshKinds_31 at hF
  refine V.ior dX6_freshKinds_31 ?_
  refine V.istore_n [(1, _), (0, _), (2, _)] dX6_freshKinds_32 rfl (by decide) rfl ?_
  refine V.iinc (v := (x2 + (1))) 2 [(2, _), (1, _), (0, _)] dX6_freshKinds_33 rfl rfl (by decide) rfl ?_
  refine V.goto (tgt := 4) dX6_freshKinds_36 rfl ?_
  exact V.sub [2, 1, 0] rfl (hK4 _ _ hF)
def X6_freshKinds_4 (n : Nat) : Nat → Int32 → Int32 → Mm → Option Int32
  | 0, _, _, _ => none
  | f + 1, x1, x2, h => (if (4) ≤ x2 then (some x1) else (bp (X11_at 28 x2 h) (fun r9 => (if r9 = 0 then (X6_freshKinds_31 n (X6_freshKinds_4 n f) x2 x1 ((1) <<< (x2 &&& 31)) h) else (X6_freshKinds_31 n (X6_freshKinds_4 n f) x2 x1 (0) h)))))
set_option maxRecDepth 100000 in
set_option maxHeartbeats 4000000 in
theorem v_X6_freshKinds_4 {X : WX} {G : GX} {o : Mm} {n : Nat} {rv : Int32} {h : Mm} : ∀ (f : Nat) (x1 : Int32) (x2 : Int32), X6_freshKinds_4 n f x1 x2 h = some rv → V X G RX6 cX6_freshKinds 3 (some .int) 2 0 0 (QR X G true o (some (.int rv)) h) true o 4 [(0, .ref (xa X 246)), (1, .int x1), (2, .int x2)] [] h := by
  intro f
  induction f with
  | zero => intro x1 x2 hF; exact nomatch (show (none : Option Int32) = some rv from hF)
  | succ f ih =>
    intro x1 x2 hF
    unfold X6_freshKinds_4 at hF
    refine V.iload_n 2 dX6_freshKinds_4 rfl rfl ?_
    refine V.iconst (v := 4) dX6_freshKinds_5 rfl ?_
    refine V.icmp_ge (tgt := 39) dX6_freshKinds_6 rfl (fun c => ?_) (fun c => ?_)
    · replace hF := (if_pos c).symm.trans hF
      refine V.iload_n 1 dX6_freshKinds_39 rfl rfl ?_
      cases hF
      exact V.iret dX6_freshKinds_40
    · replace hF := (if_neg c).symm.trans hF
      refine V.iload_n 1 dX6_freshKinds_9 rfl rfl ?_
      refine V.aload_n 0 dX6_freshKinds_10 rfl rfl ?_
      refine V.getR (v := 27) fl_X6_34 sh_246 rfl fx_246_3 (by decide) dX6_freshKinds_11 ?_
      refine V.getR (v := 28) fl_X6_45 sh_27 rfl fx_27_0 (by decide) dX6_freshKinds_14 ?_
      refine V.iload_n 2 dX6_freshKinds_17 rfl rfl ?_
      obtain ⟨r9, hc10, hF⟩ := bp_s hF
      refine V.callNi mf_X11_at ml_X6_79 (s_X11_at (Or.inl io_28) hc10) (by decide) rfl rfl (Nat.le_of_ble_eq_true rfl) dX6_freshKinds_18 ?_
      refine V.if_ne (tgt := 30) dX6_freshKinds_21 rfl (fun c => ?_) (fun c => ?_)
      · replace hF := (if_neg c).symm.trans hF
        refine V.iconst (v := 0) dX6_freshKinds_30 rfl ?_
        exact V.sub [0, 2] rfl (v_X6_freshKinds_31 ih hF)
      · replace hF := (if_pos c).symm.trans hF
        refine V.iconst (v := 1) dX6_freshKinds_24 rfl ?_
        refine V.iload_n 2 dX6_freshKinds_25 rfl rfl ?_
        refine V.ishl dX6_freshKinds_26 ?_
        refine V.goto (tgt := 31) dX6_freshKinds_27 rfl ?_
        exact V.sub [0, 2] rfl (v_X6_freshKinds_31 ih hF)
def X6_freshKinds (n : Nat) (h : Mm) : Option Int32 := (X6_freshKinds_4 n n (0) (0) h)
set_option maxRecDepth 100000 in
set_option maxHeartbeats 4000000 in
theorem s_X6_freshKinds {X : WX} {o : Mm} {n : Nat} {rv : Int32} {h : Mm} (hF : X6_freshKinds n h = some rv) : Sat X yX6_freshKinds cX6_freshKinds 3 (some .int) 2 [.ref (xa X 246)] true o h (some (.int rv)) h := by
  unfold X6_freshKinds at hF
  refine Sat.mk (own := RX6) rfl (by decide +kernel) (Nat.le_of_ble_eq_true rfl) (fun G => ?_)
  refine V.sub (lv2 := [(0, _)]) [0] rfl ?_
  refine V.iconst (v := 0) dX6_freshKinds_0 rfl ?_
  refine V.istore_n [(1, _), (0, _)] dX6_freshKinds_1 rfl (by decide) rfl ?_
  refine V.iconst (v := 0) dX6_freshKinds_2 rfl ?_
  refine V.istore_n [(2, _), (1, _), (0, _)] dX6_freshKinds_3 rfl (by decide) rfl ?_
  exact V.sub [2, 1, 0] rfl (v_X6_freshKinds_4 n _ _ hF)
/-! MonsterCot$Search.openBooks -/
theorem dX6_openBooks_0 : decode cX6_openBooks 0 = .ok (.iconst 0, 1) := by decide +kernel
theorem dX6_openBooks_1 : decode cX6_openBooks 1 = .ok (.istore_n 1, 1) := by decide +kernel
theorem dX6_openBooks_2 : decode cX6_openBooks 2 = .ok (.iconst 0, 1) := by decide +kernel
theorem dX6_openBooks_3 : decode cX6_openBooks 3 = .ok (.istore_n 2, 1) := by decide +kernel
theorem dX6_openBooks_4 : decode cX6_openBooks 4 = .ok (.iload_n 2, 1) := by decide +kernel
theorem dX6_openBooks_5 : decode cX6_openBooks 5 = .ok (.aload_n 0, 1) := by decide +kernel
theorem dX6_openBooks_6 : decode cX6_openBooks 6 = .ok (.getfield 28, 3) := by decide +kernel
theorem dX6_openBooks_9 : decode cX6_openBooks 9 = .ok (.invokevirtual 59, 3) := by decide +kernel
theorem dX6_openBooks_12 : decode cX6_openBooks 12 = .ok (.if_icmp .ge 43, 3) := by decide +kernel
theorem dX6_openBooks_15 : decode cX6_openBooks 15 = .ok (.iload_n 1, 1) := by decide +kernel
theorem dX6_openBooks_16 : decode cX6_openBooks 16 = .ok (.aload_n 0, 1) := by decide +kernel
theorem dX6_openBooks_17 : decode cX6_openBooks 17 = .ok (.getfield 18, 3) := by decide +kernel
theorem dX6_openBooks_20 : decode cX6_openBooks 20 = .ok (.aload_n 0, 1) := by decide +kernel
theorem dX6_openBooks_21 : decode cX6_openBooks 21 = .ok (.getfield 34, 3) := by decide +kernel
theorem dX6_openBooks_24 : decode cX6_openBooks 24 = .ok (.iload_n 2, 1) := by decide +kernel
theorem dX6_openBooks_25 : decode cX6_openBooks 25 = .ok (.aload_n 0, 1) := by decide +kernel
theorem dX6_openBooks_26 : decode cX6_openBooks 26 = .ok (.getfield 28, 3) := by decide +kernel
theorem dX6_openBooks_29 : decode cX6_openBooks 29 = .ok (.iload_n 2, 1) := by decide +kernel
theorem dX6_openBooks_30 : decode cX6_openBooks 30 = .ok (.invokevirtual 95, 3) := by decide +kernel
theorem dX6_openBooks_33 : decode cX6_openBooks 33 = .ok (.iconst 0, 1) := by decide +kernel
theorem dX6_openBooks_34 : decode cX6_openBooks 34 = .ok (.invokevirtual 186, 3) := by decide +kernel
theorem dX6_openBooks_37 : decode cX6_openBooks 37 = .ok (.ifCond .eq 9, 3) := by decide +kernel
theorem dX6_openBooks_40 : decode cX6_openBooks 40 = .ok (.iconst 1, 1) := by decide +kernel
theorem dX6_openBooks_41 : decode cX6_openBooks 41 = .ok (.iload_n 2, 1) := by decide +kernel
theorem dX6_openBooks_42 : decode cX6_openBooks 42 = .ok (.ishl, 1) := by decide +kernel
theorem dX6_openBooks_43 : decode cX6_openBooks 43 = .ok (.goto 4, 3) := by decide +kernel
theorem dX6_openBooks_46 : decode cX6_openBooks 46 = .ok (.iconst 0, 1) := by decide +kernel
theorem dX6_openBooks_47 : decode cX6_openBooks 47 = .ok (.ior, 1) := by decide +kernel
theorem dX6_openBooks_48 : decode cX6_openBooks 48 = .ok (.istore_n 1, 1) := by decide +kernel
theorem dX6_openBooks_49 : decode cX6_openBooks 49 = .ok (.iinc 2 1, 3) := by decide +kernel
theorem dX6_openBooks_52 : decode cX6_openBooks 52 = .ok (.goto (-48), 3) := by decide +kernel
theorem dX6_openBooks_55 : decode cX6_openBooks 55 = .ok (.iload_n 1, 1) := by decide +kernel
theorem dX6_openBooks_56 : decode cX6_openBooks 56 = .ok (.ireturn, 1) := by decide +kernel
def X6_openBooks_47 (n : Nat) (K4 : Int32 → Int32 → Mm → Option Int32) (x2 : Int32) (s0 : Int32) (s1 : Int32) (h : Mm) : Option Int32 := (K4 (s0 ||| s1) (x2 + (1)) h)
set_option maxRecDepth 100000 in
set_option maxHeartbeats 4000000 in
theorem v_X6_openBooks_47 {X : WX} {G : GX} {o : Mm} {n : Nat} {K4 : Int32 → Int32 → Mm → Option Int32} {rv : Int32} {h : Mm} (hK4 : ∀ (x1 : Int32) (x2 : Int32), K4 x1 x2 h = some rv → V X G RX6 cX6_openBooks 3 (some .int) 6 0 0 (QR X G true o (some (.int rv)) h) true o 4 [(0, .ref (xa X 246)), (1, .int x1), (2, .int x2)] [] h) {x2 : Int32} {s0 : Int32} {s1 : Int32} (hF : X6_openBooks_47 n K4 x2 s0 s1 h = some rv) : V X G RX6 cX6_openBooks 3 (some .int) 6 0 0 (QR X G true o (some (.int rv)) h) true o 47 [(0, .ref (xa X 246)), (2, .int x2)] [.int s1, .int s0] h := by
  unfold X6_openBooks_47 at hF
  refine V.ior dX6_openBooks_47 ?_
  refine V.istore_n [(1, _), (0, _), (2, _)] dX6_openBooks_48 rfl (by decide) rfl ?_
  refine V.iinc (v := (x2 + (1))) 2 [(2, _), (1, _), (0, _)] dX6_openBooks_49 rfl rfl (by decide) rfl ?_
  refine V.goto (tgt := 4) dX6_openBooks_52 rfl ?_
  exact V.sub [2, 1, 0] rfl (hK4 _ _ hF)
def X6_openBooks_4 (n : Nat) : Nat → Int32 → Int32 → Mm → Option Int32
  | 0, _, _, _ => none
  | f + 1, x1, x2, h => (bp (X1_books 13 h) (fun r25 => (if r25 ≤ x2 then (some x1) else (bp (X1_pagesOf 13 x2 h) (fun r27 => (bp (X9_canRead 27 x2 r27 false h) (fun r29 => (if r29 = true then (X6_openBooks_47 n (X6_openBooks_4 n f) x2 x1 ((1) <<< (x2 &&& 31)) h) else (X6_openBooks_47 n (X6_openBooks_4 n f) x2 x1 (0) h)))))))))
set_option maxRecDepth 100000 in
set_option maxHeartbeats 4000000 in
theorem v_X6_openBooks_4 {X : WX} {G : GX} {o : Mm} {n : Nat} {rv : Int32} {h : Mm} : ∀ (f : Nat) (x1 : Int32) (x2 : Int32), X6_openBooks_4 n f x1 x2 h = some rv → V X G RX6 cX6_openBooks 3 (some .int) 6 0 0 (QR X G true o (some (.int rv)) h) true o 4 [(0, .ref (xa X 246)), (1, .int x1), (2, .int x2)] [] h := by
  intro f
  induction f with
  | zero => intro x1 x2 hF; exact nomatch (show (none : Option Int32) = some rv from hF)
  | succ f ih =>
    intro x1 x2 hF
    unfold X6_openBooks_4 at hF
    refine V.iload_n 2 dX6_openBooks_4 rfl rfl ?_
    refine V.aload_n 0 dX6_openBooks_5 rfl rfl ?_
    refine V.getR (v := 13) fl_X6_28 sh_246 rfl fx_246_1 (by decide) dX6_openBooks_6 ?_
    obtain ⟨r25, hc26, hF⟩ := bp_s hF
    refine V.callVi mf_X1_books ml_X6_59 sh_13 (s_X1_books (Or.inr rfl) hc26) (by decide) rfl rfl (Nat.le_of_ble_eq_true rfl) dX6_openBooks_9 ?_
    refine V.icmp_ge (tgt := 55) dX6_openBooks_12 rfl (fun c => ?_) (fun c => ?_)
    · replace hF := (if_pos c).symm.trans hF
      refine V.iload_n 1 dX6_openBooks_55 rfl rfl ?_
      cases hF
      exact V.iret dX6_openBooks_56
    · replace hF := (if_neg c).symm.trans hF
      refine V.iload_n 1 dX6_openBooks_15 rfl rfl ?_
      refine V.aload_n 0 dX6_openBooks_16 rfl rfl ?_
      refine V.getR (v := 26) fl_X6_18 sh_246 rfl fx_246_0 (by decide) dX6_openBooks_17 ?_
      refine V.aload_n 0 dX6_openBooks_20 rfl rfl ?_
      refine V.getR (v := 27) fl_X6_34 sh_246 rfl fx_246_3 (by decide) dX6_openBooks_21 ?_
      refine V.iload_n 2 dX6_openBooks_24 rfl rfl ?_
      refine V.aload_n 0 dX6_openBooks_25 rfl rfl ?_
      refine V.getR (v := 13) fl_X6_28 sh_246 rfl fx_246_1 (by decide) dX6_openBooks_26 ?_
      refine V.iload_n 2 dX6_openBooks_29 rfl rfl ?_
      obtain ⟨r27, hc28, hF⟩ := bp_s hF
      refine V.callVi mf_X1_pagesOf ml_X6_95 sh_13 (s_X1_pagesOf (Or.inr rfl) hc28) (by decide) rfl rfl (Nat.le_of_ble_eq_true rfl) dX6_openBooks_30 ?_
      refine V.iconst (v := 0) dX6_openBooks_33 rfl ?_
      obtain ⟨r29, hc30, hF⟩ := bp_s hF
      refine V.callVi mf_X9_canRead ml_X6_186 sh_26 (s_X9_canRead isb_27 hc30) (by decide) rfl rfl (Nat.le_of_ble_eq_true rfl) dX6_openBooks_34 ?_
      refine V.ifz_eq (tgt := 46) dX6_openBooks_37 rfl (fun c => ?_) (fun c => ?_)
      · replace hF := (if_neg c).symm.trans hF
        refine V.iconst (v := 0) dX6_openBooks_46 rfl ?_
        exact V.sub [0, 2] rfl (v_X6_openBooks_47 ih hF)
      · replace hF := (if_pos c).symm.trans hF
        refine V.iconst (v := 1) dX6_openBooks_40 rfl ?_
        refine V.iload_n 2 dX6_openBooks_41 rfl rfl ?_
        refine V.ishl dX6_openBooks_42 ?_
        refine V.goto (tgt := 47) dX6_openBooks_43 rfl ?_
        exact V.sub [0, 2] rfl (v_X6_openBooks_47 ih hF)
def X6_openBooks (n : Nat) (h : Mm) : Option Int32 := (X6_openBooks_4 n n (0) (0) h)
set_option maxRecDepth 100000 in
set_option maxHeartbeats 4000000 in
theorem s_X6_openBooks {X : WX} {o : Mm} {n : Nat} {rv : Int32} {h : Mm} (hF : X6_openBooks n h = some rv) : Sat X yX6_openBooks cX6_openBooks 3 (some .int) 6 [.ref (xa X 246)] true o h (some (.int rv)) h := by
  unfold X6_openBooks at hF
  refine Sat.mk (own := RX6) rfl (by decide +kernel) (Nat.le_of_ble_eq_true rfl) (fun G => ?_)
  refine V.sub (lv2 := [(0, _)]) [0] rfl ?_
  refine V.iconst (v := 0) dX6_openBooks_0 rfl ?_
  refine V.istore_n [(1, _), (0, _)] dX6_openBooks_1 rfl (by decide) rfl ?_
  refine V.iconst (v := 0) dX6_openBooks_2 rfl ?_
  refine V.istore_n [(2, _), (1, _), (0, _)] dX6_openBooks_3 rfl (by decide) rfl ?_
  exact V.sub [2, 1, 0] rfl (v_X6_openBooks_4 n _ _ hF)
/-! MonsterCot.all -/
theorem dX11_all_0 : decode cX11_all 0 = .ok (.aload_n 0, 1) := by decide +kernel
theorem dX11_all_1 : decode cX11_all 1 = .ok (.getfield 42, 3) := by decide +kernel
theorem dX11_all_4 : decode cX11_all 4 = .ok (.invokevirtual 124, 3) := by decide +kernel
theorem dX11_all_7 : decode cX11_all 7 = .ok (.ifCond .ne 5, 3) := by decide +kernel
theorem dX11_all_10 : decode cX11_all 10 = .ok (.iconst (-1), 1) := by decide +kernel
theorem dX11_all_11 : decode cX11_all 11 = .ok (.ireturn, 1) := by decide +kernel
theorem dX11_all_12 : decode cX11_all 12 = .ok (.iload_n 1, 1) := by decide +kernel
theorem dX11_all_13 : decode cX11_all 13 = .ok (.tableswitch 126 0 7 #[47, 55, 78, 86, 94, 102, 110, 118], 47) := by decide +kernel
theorem dX11_all_60 : decode cX11_all 60 = .ok (.aload_n 0, 1) := by decide +kernel
theorem dX11_all_61 : decode cX11_all 61 = .ok (.getfield 84, 3) := by decide +kernel
theorem dX11_all_64 : decode cX11_all 64 = .ok (.invokevirtual 352, 3) := by decide +kernel
theorem dX11_all_67 : decode cX11_all 67 = .ok (.ireturn, 1) := by decide +kernel
theorem dX11_all_68 : decode cX11_all 68 = .ok (.aload_n 0, 1) := by decide +kernel
theorem dX11_all_69 : decode cX11_all 69 = .ok (.getfield 65, 3) := by decide +kernel
theorem dX11_all_72 : decode cX11_all 72 = .ok (.getfield 128, 3) := by decide +kernel
theorem dX11_all_75 : decode cX11_all 75 = .ok (.aload_n 0, 1) := by decide +kernel
theorem dX11_all_76 : decode cX11_all 76 = .ok (.getfield 42, 3) := by decide +kernel
theorem dX11_all_79 : decode cX11_all 79 = .ok (.invokevirtual 131, 3) := by decide +kernel
theorem dX11_all_82 : decode cX11_all 82 = .ok (.if_icmp .lt 7, 3) := by decide +kernel
theorem dX11_all_85 : decode cX11_all 85 = .ok (.iconst 1, 1) := by decide +kernel
theorem dX11_all_86 : decode cX11_all 86 = .ok (.goto 4, 3) := by decide +kernel
theorem dX11_all_89 : decode cX11_all 89 = .ok (.iconst 0, 1) := by decide +kernel
theorem dX11_all_90 : decode cX11_all 90 = .ok (.ireturn, 1) := by decide +kernel
theorem dX11_all_91 : decode cX11_all 91 = .ok (.aload_n 0, 1) := by decide +kernel
theorem dX11_all_92 : decode cX11_all 92 = .ok (.getfield 84, 3) := by decide +kernel
theorem dX11_all_95 : decode cX11_all 95 = .ok (.invokevirtual 355, 3) := by decide +kernel
theorem dX11_all_98 : decode cX11_all 98 = .ok (.ireturn, 1) := by decide +kernel
theorem dX11_all_99 : decode cX11_all 99 = .ok (.aload_n 0, 1) := by decide +kernel
theorem dX11_all_100 : decode cX11_all 100 = .ok (.getfield 84, 3) := by decide +kernel
theorem dX11_all_103 : decode cX11_all 103 = .ok (.invokevirtual 358, 3) := by decide +kernel
theorem dX11_all_106 : decode cX11_all 106 = .ok (.ireturn, 1) := by decide +kernel
theorem dX11_all_107 : decode cX11_all 107 = .ok (.aload_n 0, 1) := by decide +kernel
theorem dX11_all_108 : decode cX11_all 108 = .ok (.getfield 84, 3) := by decide +kernel
theorem dX11_all_111 : decode cX11_all 111 = .ok (.invokevirtual 361, 3) := by decide +kernel
theorem dX11_all_114 : decode cX11_all 114 = .ok (.ireturn, 1) := by decide +kernel
theorem dX11_all_115 : decode cX11_all 115 = .ok (.aload_n 0, 1) := by decide +kernel
theorem dX11_all_116 : decode cX11_all 116 = .ok (.getfield 84, 3) := by decide +kernel
theorem dX11_all_119 : decode cX11_all 119 = .ok (.invokevirtual 364, 3) := by decide +kernel
theorem dX11_all_122 : decode cX11_all 122 = .ok (.ireturn, 1) := by decide +kernel
theorem dX11_all_123 : decode cX11_all 123 = .ok (.aload_n 0, 1) := by decide +kernel
theorem dX11_all_124 : decode cX11_all 124 = .ok (.getfield 84, 3) := by decide +kernel
theorem dX11_all_127 : decode cX11_all 127 = .ok (.invokevirtual 367, 3) := by decide +kernel
theorem dX11_all_130 : decode cX11_all 130 = .ok (.ireturn, 1) := by decide +kernel
theorem dX11_all_131 : decode cX11_all 131 = .ok (.aload_n 0, 1) := by decide +kernel
theorem dX11_all_132 : decode cX11_all 132 = .ok (.getfield 84, 3) := by decide +kernel
theorem dX11_all_135 : decode cX11_all 135 = .ok (.invokevirtual 370, 3) := by decide +kernel
theorem dX11_all_138 : decode cX11_all 138 = .ok (.ireturn, 1) := by decide +kernel
theorem dX11_all_139 : decode cX11_all 139 = .ok (.iconst (-1), 1) := by decide +kernel
theorem dX11_all_140 : decode cX11_all 140 = .ok (.ireturn, 1) := by decide +kernel
def X11_all (n : Nat) (x1 : Int32) (h : Mm) : Option Int32 := (bp (X1_stands 13 h) (fun r19 => (if r19 = true then (if x1 = 0 then (bp (X6_fairest n h) (fun r21 => (some r21))) else (if x1 = 1 then (bp (X1_enough 13 h) (fun r23 => (if (h.1 27 4) < r23 then (some (0)) else (some (1))))) else (if x1 = 2 then (bp (X6_strongest n h) (fun r25 => (some r25))) else (if x1 = 3 then (bp (X6_loudest n h) (fun r27 => (some r27))) else (if x1 = 4 then (bp (X6_fullest n h) (fun r29 => (some r29))) else (if x1 = 5 then (bp (X6_longest n h) (fun r31 => (some r31))) else (if x1 = 6 then (bp (X6_freshKinds n h) (fun r33 => (some r33))) else (if x1 = 7 then (bp (X6_openBooks n h) (fun r35 => (some r35))) else (some (-1)))))))))) else (some (-1)))))
set_option maxRecDepth 100000 in
set_option maxHeartbeats 4000000 in
theorem s_X11_all {X : WX} {o : Mm} {n : Nat} {x1 : Int32} {rv : Int32} {h : Mm} (hF : X11_all n x1 h = some rv) : Sat X yX11_all cX11_all 2 (some .int) 7 [.ref (xa X 0), .int x1] true o h (some (.int rv)) h := by
  unfold X11_all at hF
  refine Sat.mk (own := RX11) rfl (by decide +kernel) (Nat.le_of_ble_eq_true rfl) (fun G => ?_)
  refine V.sub (lv2 := [(0, _), (1, _)]) [0, 1] rfl ?_
  refine V.aload_n 0 dX11_all_0 rfl rfl ?_
  refine V.getR (v := 13) fl_X11_42 sh_0 rfl fx_0_4 (by decide) dX11_all_1 ?_
  obtain ⟨r19, hc20, hF⟩ := bp_s hF
  refine V.callVi mf_X1_stands ml_X11_124 sh_13 (s_X1_stands (Or.inr rfl) hc20) (by decide) rfl rfl (Nat.le_of_ble_eq_true rfl) dX11_all_4 ?_
  refine V.ifz_ne (tgt := 12) dX11_all_7 rfl (fun c => ?_) (fun c => ?_)
  · replace hF := (if_pos c).symm.trans hF
    refine V.iload_n 1 dX11_all_12 rfl rfl ?_
    by_cases c0 : x1 = 0
    · replace hF := (if_pos c0).symm.trans hF
      refine V.tswIn (tgt := 60) c0 dX11_all_13 (by decide) (by decide) rfl rfl ?_
      refine V.aload_n 0 dX11_all_60 rfl rfl ?_
      refine V.getR (v := 246) fl_X11_84 sh_0 rfl fx_0_10 (by decide) dX11_all_61 ?_
      obtain ⟨r21, hc22, hF⟩ := bp_s hF
      refine V.callVi mf_X6_fairest ml_X11_352 sh_246 (s_X6_fairest hc22) (by decide) rfl rfl (Nat.le_of_ble_eq_true rfl) dX11_all_64 ?_
      cases hF
      exact V.iret dX11_all_67
    replace hF := (if_neg c0).symm.trans hF
    by_cases c1 : x1 = 1
    · replace hF := (if_pos c1).symm.trans hF
      refine V.tswIn (tgt := 68) c1 dX11_all_13 (by decide) (by decide) rfl rfl ?_
      refine V.aload_n 0 dX11_all_68 rfl rfl ?_
      refine V.getR (v := 27) fl_X11_65 sh_0 rfl fx_0_7 (by decide) dX11_all_69 ?_
      refine V.getI fl_X11_128 sh_27 rfl km_27 dX11_all_72 ?_
      refine V.aload_n 0 dX11_all_75 rfl rfl ?_
      refine V.getR (v := 13) fl_X11_42 sh_0 rfl fx_0_4 (by decide) dX11_all_76 ?_
      obtain ⟨r23, hc24, hF⟩ := bp_s hF
      refine V.callVi mf_X1_enough ml_X11_131 sh_13 (s_X1_enough (Or.inr rfl) hc24) (by decide) rfl rfl (Nat.le_of_ble_eq_true rfl) dX11_all_79 ?_
      refine V.icmp_lt (tgt := 89) dX11_all_82 rfl (fun c => ?_) (fun c => ?_)
      · replace hF := (if_pos c).symm.trans hF
        refine V.iconst (v := 0) dX11_all_89 rfl ?_
        cases hF
        exact V.iret dX11_all_90
      · replace hF := (if_neg c).symm.trans hF
        refine V.iconst (v := 1) dX11_all_85 rfl ?_
        refine V.goto (tgt := 90) dX11_all_86 rfl ?_
        cases hF
        exact V.iret dX11_all_90
    replace hF := (if_neg c1).symm.trans hF
    by_cases c2 : x1 = 2
    · replace hF := (if_pos c2).symm.trans hF
      refine V.tswIn (tgt := 91) c2 dX11_all_13 (by decide) (by decide) rfl rfl ?_
      refine V.aload_n 0 dX11_all_91 rfl rfl ?_
      refine V.getR (v := 246) fl_X11_84 sh_0 rfl fx_0_10 (by decide) dX11_all_92 ?_
      obtain ⟨r25, hc26, hF⟩ := bp_s hF
      refine V.callVi mf_X6_strongest ml_X11_355 sh_246 (s_X6_strongest hc26) (by decide) rfl rfl (Nat.le_of_ble_eq_true rfl) dX11_all_95 ?_
      cases hF
      exact V.iret dX11_all_98
    replace hF := (if_neg c2).symm.trans hF
    by_cases c3 : x1 = 3
    · replace hF := (if_pos c3).symm.trans hF
      refine V.tswIn (tgt := 99) c3 dX11_all_13 (by decide) (by decide) rfl rfl ?_
      refine V.aload_n 0 dX11_all_99 rfl rfl ?_
      refine V.getR (v := 246) fl_X11_84 sh_0 rfl fx_0_10 (by decide) dX11_all_100 ?_
      obtain ⟨r27, hc28, hF⟩ := bp_s hF
      refine V.callVi mf_X6_loudest ml_X11_358 sh_246 (s_X6_loudest hc28) (by decide) rfl rfl (Nat.le_of_ble_eq_true rfl) dX11_all_103 ?_
      cases hF
      exact V.iret dX11_all_106
    replace hF := (if_neg c3).symm.trans hF
    by_cases c4 : x1 = 4
    · replace hF := (if_pos c4).symm.trans hF
      refine V.tswIn (tgt := 107) c4 dX11_all_13 (by decide) (by decide) rfl rfl ?_
      refine V.aload_n 0 dX11_all_107 rfl rfl ?_
      refine V.getR (v := 246) fl_X11_84 sh_0 rfl fx_0_10 (by decide) dX11_all_108 ?_
      obtain ⟨r29, hc30, hF⟩ := bp_s hF
      refine V.callVi mf_X6_fullest ml_X11_361 sh_246 (s_X6_fullest hc30) (by decide) rfl rfl (Nat.le_of_ble_eq_true rfl) dX11_all_111 ?_
      cases hF
      exact V.iret dX11_all_114
    replace hF := (if_neg c4).symm.trans hF
    by_cases c5 : x1 = 5
    · replace hF := (if_pos c5).symm.trans hF
      refine V.tswIn (tgt := 115) c5 dX11_all_13 (by decide) (by decide) rfl rfl ?_
      refine V.aload_n 0 dX11_all_115 rfl rfl ?_
      refine V.getR (v := 246) fl_X11_84 sh_0 rfl fx_0_10 (by decide) dX11_all_116 ?_
      obtain ⟨r31, hc32, hF⟩ := bp_s hF
      refine V.callVi mf_X6_longest ml_X11_364 sh_246 (s_X6_longest hc32) (by decide) rfl rfl (Nat.le_of_ble_eq_true rfl) dX11_all_119 ?_
      cases hF
      exact V.iret dX11_all_122
    replace hF := (if_neg c5).symm.trans hF
    by_cases c6 : x1 = 6
    · replace hF := (if_pos c6).symm.trans hF
      refine V.tswIn (tgt := 123) c6 dX11_all_13 (by decide) (by decide) rfl rfl ?_
      refine V.aload_n 0 dX11_all_123 rfl rfl ?_
      refine V.getR (v := 246) fl_X11_84 sh_0 rfl fx_0_10 (by decide) dX11_all_124 ?_
      obtain ⟨r33, hc34, hF⟩ := bp_s hF
      refine V.callVi mf_X6_freshKinds ml_X11_367 sh_246 (s_X6_freshKinds hc34) (by decide) rfl rfl (Nat.le_of_ble_eq_true rfl) dX11_all_127 ?_
      cases hF
      exact V.iret dX11_all_130
    replace hF := (if_neg c6).symm.trans hF
    by_cases c7 : x1 = 7
    · replace hF := (if_pos c7).symm.trans hF
      refine V.tswIn (tgt := 131) c7 dX11_all_13 (by decide) (by decide) rfl rfl ?_
      refine V.aload_n 0 dX11_all_131 rfl rfl ?_
      refine V.getR (v := 246) fl_X11_84 sh_0 rfl fx_0_10 (by decide) dX11_all_132 ?_
      obtain ⟨r35, hc36, hF⟩ := bp_s hF
      refine V.callVi mf_X6_openBooks ml_X11_370 sh_246 (s_X6_openBooks hc36) (by decide) rfl rfl (Nat.le_of_ble_eq_true rfl) dX11_all_135 ?_
      cases hF
      exact V.iret dX11_all_138
    replace hF := (if_neg c7).symm.trans hF
    refine V.tswOut (tgt := 139) dX11_all_13 (tsw_out (by decide) (by decide) [0, 1, 2, 3, 4, 5, 6, 7] rfl (fun v hv => ?_)) rfl ?_
    · simp only [List.mem_cons, List.not_mem_nil, or_false] at hv
      rcases hv with rfl | rfl | rfl | rfl | rfl | rfl | rfl | rfl <;> assumption
    refine V.iconst (v := -1) dX11_all_139 rfl ?_
    cases hF
    exact V.iret dX11_all_140
  · replace hF := (if_neg c).symm.trans hF
    refine V.iconst (v := -1) dX11_all_10 rfl ?_
    cases hF
    exact V.iret dX11_all_11
/-! MonsterCot.pages -/
theorem dX11_pages_0 : decode cX11_pages 0 = .ok (.aload_n 0, 1) := by decide +kernel
theorem dX11_pages_1 : decode cX11_pages 1 = .ok (.getfield 42, 3) := by decide +kernel
theorem dX11_pages_4 : decode cX11_pages 4 = .ok (.invokevirtual 124, 3) := by decide +kernel
theorem dX11_pages_7 : decode cX11_pages 7 = .ok (.ifCond .eq 10, 3) := by decide +kernel
theorem dX11_pages_10 : decode cX11_pages 10 = .ok (.iload_n 1, 1) := by decide +kernel
theorem dX11_pages_11 : decode cX11_pages 11 = .ok (.invokestatic 183, 3) := by decide +kernel
theorem dX11_pages_14 : decode cX11_pages 14 = .ok (.ifCond .ne 5, 3) := by decide +kernel
theorem dX11_pages_17 : decode cX11_pages 17 = .ok (.iconst (-1), 1) := by decide +kernel
theorem dX11_pages_18 : decode cX11_pages 18 = .ok (.ireturn, 1) := by decide +kernel
theorem dX11_pages_19 : decode cX11_pages 19 = .ok (.iconst 0, 1) := by decide +kernel
theorem dX11_pages_20 : decode cX11_pages 20 = .ok (.istore_n 2, 1) := by decide +kernel
theorem dX11_pages_21 : decode cX11_pages 21 = .ok (.iconst 0, 1) := by decide +kernel
theorem dX11_pages_22 : decode cX11_pages 22 = .ok (.istore_n 3, 1) := by decide +kernel
theorem dX11_pages_23 : decode cX11_pages 23 = .ok (.iload_n 3, 1) := by decide +kernel
theorem dX11_pages_24 : decode cX11_pages 24 = .ok (.aload_n 0, 1) := by decide +kernel
theorem dX11_pages_25 : decode cX11_pages 25 = .ok (.getfield 42, 3) := by decide +kernel
theorem dX11_pages_28 : decode cX11_pages 28 = .ok (.invokevirtual 309, 3) := by decide +kernel
theorem dX11_pages_31 : decode cX11_pages 31 = .ok (.if_icmp .ge 36, 3) := by decide +kernel
theorem dX11_pages_34 : decode cX11_pages 34 = .ok (.iload_n 2, 1) := by decide +kernel
theorem dX11_pages_35 : decode cX11_pages 35 = .ok (.aload_n 0, 1) := by decide +kernel
theorem dX11_pages_36 : decode cX11_pages 36 = .ok (.getfield 42, 3) := by decide +kernel
theorem dX11_pages_39 : decode cX11_pages 39 = .ok (.iload_n 3, 1) := by decide +kernel
theorem dX11_pages_40 : decode cX11_pages 40 = .ok (.invokevirtual 147, 3) := by decide +kernel
theorem dX11_pages_43 : decode cX11_pages 43 = .ok (.iload_n 1, 1) := by decide +kernel
theorem dX11_pages_44 : decode cX11_pages 44 = .ok (.if_icmp .ne 14, 3) := by decide +kernel
theorem dX11_pages_47 : decode cX11_pages 47 = .ok (.aload_n 0, 1) := by decide +kernel
theorem dX11_pages_48 : decode cX11_pages 48 = .ok (.getfield 42, 3) := by decide +kernel
theorem dX11_pages_51 : decode cX11_pages 51 = .ok (.iload_n 3, 1) := by decide +kernel
theorem dX11_pages_52 : decode cX11_pages 52 = .ok (.invokevirtual 140, 3) := by decide +kernel
theorem dX11_pages_55 : decode cX11_pages 55 = .ok (.goto 4, 3) := by decide +kernel
theorem dX11_pages_58 : decode cX11_pages 58 = .ok (.iconst 0, 1) := by decide +kernel
theorem dX11_pages_59 : decode cX11_pages 59 = .ok (.iadd, 1) := by decide +kernel
theorem dX11_pages_60 : decode cX11_pages 60 = .ok (.istore_n 2, 1) := by decide +kernel
theorem dX11_pages_61 : decode cX11_pages 61 = .ok (.iinc 3 1, 3) := by decide +kernel
theorem dX11_pages_64 : decode cX11_pages 64 = .ok (.goto (-41), 3) := by decide +kernel
theorem dX11_pages_67 : decode cX11_pages 67 = .ok (.iload_n 2, 1) := by decide +kernel
theorem dX11_pages_68 : decode cX11_pages 68 = .ok (.ireturn, 1) := by decide +kernel
def X11_pages_59 (n : Nat) (K23 : Int32 → Int32 → Int32 → Mm → Option Int32) (x1 : Int32) (x3 : Int32) (s0 : Int32) (s1 : Int32) (h : Mm) : Option Int32 := (K23 x1 (s0 + s1) (x3 + (1)) h)
set_option maxRecDepth 100000 in
set_option maxHeartbeats 4000000 in
theorem v_X11_pages_59 {X : WX} {G : GX} {o : Mm} {n : Nat} {K23 : Int32 → Int32 → Int32 → Mm → Option Int32} {rv : Int32} {h : Mm} (hK23 : ∀ (x1 : Int32) (x2 : Int32) (x3 : Int32), K23 x1 x2 x3 h = some rv → V X G RX11 cX11_pages 4 (some .int) 4 0 0 (QR X G true o (some (.int rv)) h) true o 23 [(0, .ref (xa X 0)), (1, .int x1), (2, .int x2), (3, .int x3)] [] h) {x1 : Int32} {x3 : Int32} {s0 : Int32} {s1 : Int32} (hF : X11_pages_59 n K23 x1 x3 s0 s1 h = some rv) : V X G RX11 cX11_pages 4 (some .int) 4 0 0 (QR X G true o (some (.int rv)) h) true o 59 [(0, .ref (xa X 0)), (1, .int x1), (3, .int x3)] [.int s1, .int s0] h := by
  unfold X11_pages_59 at hF
  refine V.iadd dX11_pages_59 ?_
  refine V.istore_n [(2, _), (0, _), (1, _), (3, _)] dX11_pages_60 rfl (by decide) rfl ?_
  refine V.iinc (v := (x3 + (1))) 3 [(3, _), (2, _), (0, _), (1, _)] dX11_pages_61 rfl rfl (by decide) rfl ?_
  refine V.goto (tgt := 23) dX11_pages_64 rfl ?_
  exact V.sub [2, 3, 1, 0] rfl (hK23 _ _ _ hF)
def X11_pages_23 (n : Nat) : Nat → Int32 → Int32 → Int32 → Mm → Option Int32
  | 0, _, _, _, _ => none
  | f + 1, x1, x2, x3, h => (bp (X1_books 13 h) (fun r41 => (if r41 ≤ x3 then (some x2) else (bp (X1_kindOf 13 x3 h) (fun r43 => (if r43 = x1 then (bp (X1_pagesOf 13 x3 h) (fun r45 => (X11_pages_59 n (X11_pages_23 n f) x1 x3 x2 r45 h))) else (X11_pages_59 n (X11_pages_23 n f) x1 x3 x2 (0) h)))))))
set_option maxRecDepth 100000 in
set_option maxHeartbeats 4000000 in
theorem v_X11_pages_23 {X : WX} {G : GX} {o : Mm} {n : Nat} {rv : Int32} {h : Mm} : ∀ (f : Nat) (x1 : Int32) (x2 : Int32) (x3 : Int32), X11_pages_23 n f x1 x2 x3 h = some rv → V X G RX11 cX11_pages 4 (some .int) 4 0 0 (QR X G true o (some (.int rv)) h) true o 23 [(0, .ref (xa X 0)), (1, .int x1), (2, .int x2), (3, .int x3)] [] h := by
  intro f
  induction f with
  | zero => intro x1 x2 x3 hF; exact nomatch (show (none : Option Int32) = some rv from hF)
  | succ f ih =>
    intro x1 x2 x3 hF
    unfold X11_pages_23 at hF
    refine V.iload_n 3 dX11_pages_23 rfl rfl ?_
    refine V.aload_n 0 dX11_pages_24 rfl rfl ?_
    refine V.getR (v := 13) fl_X11_42 sh_0 rfl fx_0_4 (by decide) dX11_pages_25 ?_
    obtain ⟨r41, hc42, hF⟩ := bp_s hF
    refine V.callVi mf_X1_books ml_X11_309 sh_13 (s_X1_books (Or.inr rfl) hc42) (by decide) rfl rfl (Nat.le_of_ble_eq_true rfl) dX11_pages_28 ?_
    refine V.icmp_ge (tgt := 67) dX11_pages_31 rfl (fun c => ?_) (fun c => ?_)
    · replace hF := (if_pos c).symm.trans hF
      refine V.iload_n 2 dX11_pages_67 rfl rfl ?_
      cases hF
      exact V.iret dX11_pages_68
    · replace hF := (if_neg c).symm.trans hF
      refine V.iload_n 2 dX11_pages_34 rfl rfl ?_
      refine V.aload_n 0 dX11_pages_35 rfl rfl ?_
      refine V.getR (v := 13) fl_X11_42 sh_0 rfl fx_0_4 (by decide) dX11_pages_36 ?_
      refine V.iload_n 3 dX11_pages_39 rfl rfl ?_
      obtain ⟨r43, hc44, hF⟩ := bp_s hF
      refine V.callVi mf_X1_kindOf ml_X11_147 sh_13 (s_X1_kindOf (Or.inr rfl) hc44) (by decide) rfl rfl (Nat.le_of_ble_eq_true rfl) dX11_pages_40 ?_
      refine V.iload_n 1 dX11_pages_43 rfl rfl ?_
      refine V.icmp_ne (tgt := 58) dX11_pages_44 rfl (fun c => ?_) (fun c => ?_)
      · replace hF := (if_neg c).symm.trans hF
        refine V.iconst (v := 0) dX11_pages_58 rfl ?_
        exact V.sub [0, 1, 3] rfl (v_X11_pages_59 ih hF)
      · replace hF := (if_pos c).symm.trans hF
        refine V.aload_n 0 dX11_pages_47 rfl rfl ?_
        refine V.getR (v := 13) fl_X11_42 sh_0 rfl fx_0_4 (by decide) dX11_pages_48 ?_
        refine V.iload_n 3 dX11_pages_51 rfl rfl ?_
        obtain ⟨r45, hc46, hF⟩ := bp_s hF
        refine V.callVi mf_X1_pagesOf ml_X11_140 sh_13 (s_X1_pagesOf (Or.inr rfl) hc46) (by decide) rfl rfl (Nat.le_of_ble_eq_true rfl) dX11_pages_52 ?_
        refine V.goto (tgt := 59) dX11_pages_55 rfl ?_
        exact V.sub [0, 1, 3] rfl (v_X11_pages_59 ih hF)
def X11_pages (n : Nat) (x1 : Int32) (h : Mm) : Option Int32 := (bp (X1_stands 13 h) (fun r47 => (if r47 = true then (bp (X11_isKind x1 h) (fun r49 => (if r49 = true then (X11_pages_23 n n x1 (0) (0) h) else (some (-1))))) else (some (-1)))))
set_option maxRecDepth 100000 in
set_option maxHeartbeats 4000000 in
theorem s_X11_pages {X : WX} {o : Mm} {n : Nat} {x1 : Int32} {rv : Int32} {h : Mm} (hF : X11_pages n x1 h = some rv) : Sat X yX11_pages cX11_pages 4 (some .int) 4 [.ref (xa X 0), .int x1] true o h (some (.int rv)) h := by
  unfold X11_pages at hF
  refine Sat.mk (own := RX11) rfl (by decide +kernel) (Nat.le_of_ble_eq_true rfl) (fun G => ?_)
  refine V.sub (lv2 := [(0, _), (1, _)]) [0, 1] rfl ?_
  refine V.aload_n 0 dX11_pages_0 rfl rfl ?_
  refine V.getR (v := 13) fl_X11_42 sh_0 rfl fx_0_4 (by decide) dX11_pages_1 ?_
  obtain ⟨r47, hc48, hF⟩ := bp_s hF
  refine V.callVi mf_X1_stands ml_X11_124 sh_13 (s_X1_stands (Or.inr rfl) hc48) (by decide) rfl rfl (Nat.le_of_ble_eq_true rfl) dX11_pages_4 ?_
  refine V.ifz_eq (tgt := 17) dX11_pages_7 rfl (fun c => ?_) (fun c => ?_)
  · replace hF := (if_neg c).symm.trans hF
    refine V.iconst (v := -1) dX11_pages_17 rfl ?_
    cases hF
    exact V.iret dX11_pages_18
  · replace hF := (if_pos c).symm.trans hF
    refine V.iload_n 1 dX11_pages_10 rfl rfl ?_
    obtain ⟨r49, hc50, hF⟩ := bp_s hF
    refine V.callSi mf_X11_isKind ml_X11_183 (s_X11_isKind hc50) (by decide) rfl rfl (Nat.le_of_ble_eq_true rfl) dX11_pages_11 ?_
    refine V.ifz_ne (tgt := 19) dX11_pages_14 rfl (fun c => ?_) (fun c => ?_)
    · replace hF := (if_pos c).symm.trans hF
      refine V.iconst (v := 0) dX11_pages_19 rfl ?_
      refine V.istore_n [(2, _), (0, _), (1, _)] dX11_pages_20 rfl (by decide) rfl ?_
      refine V.iconst (v := 0) dX11_pages_21 rfl ?_
      refine V.istore_n [(3, _), (2, _), (0, _), (1, _)] dX11_pages_22 rfl (by decide) rfl ?_
      exact V.sub [2, 3, 1, 0] rfl (v_X11_pages_23 n _ _ _ hF)
    · replace hF := (if_neg c).symm.trans hF
      refine V.iconst (v := -1) dX11_pages_17 rfl ?_
      cases hF
      exact V.iret dX11_pages_18
/-! MonsterCot.left -/
theorem dX11_left_0 : decode cX11_left 0 = .ok (.aload_n 0, 1) := by decide +kernel
theorem dX11_left_1 : decode cX11_left 1 = .ok (.getfield 42, 3) := by decide +kernel
theorem dX11_left_4 : decode cX11_left 4 = .ok (.iload_n 1, 1) := by decide +kernel
theorem dX11_left_5 : decode cX11_left 5 = .ok (.invokevirtual 153, 3) := by decide +kernel
theorem dX11_left_8 : decode cX11_left 8 = .ok (.ifCond .eq 18, 3) := by decide +kernel
theorem dX11_left_11 : decode cX11_left 11 = .ok (.aload_n 0, 1) := by decide +kernel
theorem dX11_left_12 : decode cX11_left 12 = .ok (.getfield 58, 3) := by decide +kernel
theorem dX11_left_15 : decode cX11_left 15 = .ok (.aload_n 0, 1) := by decide +kernel
theorem dX11_left_16 : decode cX11_left 16 = .ok (.getfield 65, 3) := by decide +kernel
theorem dX11_left_19 : decode cX11_left 19 = .ok (.iload_n 1, 1) := by decide +kernel
theorem dX11_left_20 : decode cX11_left 20 = .ok (.invokevirtual 294, 3) := by decide +kernel
theorem dX11_left_23 : decode cX11_left 23 = .ok (.goto 4, 3) := by decide +kernel
theorem dX11_left_26 : decode cX11_left 26 = .ok (.iconst (-1), 1) := by decide +kernel
theorem dX11_left_27 : decode cX11_left 27 = .ok (.ireturn, 1) := by decide +kernel
def X11_left (x1 : Int32) (h : Mm) : Option Int32 := (bp (X1_hasHouse 13 x1 h) (fun r5 => (if r5 = true then (bp (X9_leftOf 27 x1 h) (fun r7 => (some r7))) else (some (-1)))))
set_option maxRecDepth 100000 in
set_option maxHeartbeats 4000000 in
theorem s_X11_left {X : WX} {o : Mm} {x1 : Int32} {rv : Int32} {h : Mm} (hF : X11_left x1 h = some rv) : Sat X yX11_left cX11_left 2 (some .int) 5 [.ref (xa X 0), .int x1] true o h (some (.int rv)) h := by
  unfold X11_left at hF
  refine Sat.mk (own := RX11) rfl (by decide +kernel) (Nat.le_of_ble_eq_true rfl) (fun G => ?_)
  refine V.sub (lv2 := [(0, _), (1, _)]) [0, 1] rfl ?_
  refine V.aload_n 0 dX11_left_0 rfl rfl ?_
  refine V.getR (v := 13) fl_X11_42 sh_0 rfl fx_0_4 (by decide) dX11_left_1 ?_
  refine V.iload_n 1 dX11_left_4 rfl rfl ?_
  obtain ⟨r5, hc6, hF⟩ := bp_s hF
  refine V.callVi mf_X1_hasHouse ml_X11_153 sh_13 (s_X1_hasHouse (Or.inr rfl) hc6) (by decide) rfl rfl (Nat.le_of_ble_eq_true rfl) dX11_left_5 ?_
  refine V.ifz_eq (tgt := 26) dX11_left_8 rfl (fun c => ?_) (fun c => ?_)
  · replace hF := (if_neg c).symm.trans hF
    refine V.iconst (v := -1) dX11_left_26 rfl ?_
    cases hF
    exact V.iret dX11_left_27
  · replace hF := (if_pos c).symm.trans hF
    refine V.aload_n 0 dX11_left_11 rfl rfl ?_
    refine V.getR (v := 26) fl_X11_58 sh_0 rfl fx_0_6 (by decide) dX11_left_12 ?_
    refine V.aload_n 0 dX11_left_15 rfl rfl ?_
    refine V.getR (v := 27) fl_X11_65 sh_0 rfl fx_0_7 (by decide) dX11_left_16 ?_
    refine V.iload_n 1 dX11_left_19 rfl rfl ?_
    obtain ⟨r7, hc8, hF⟩ := bp_s hF
    refine V.callVi mf_X9_leftOf ml_X11_294 sh_26 (s_X9_leftOf isb_27 hc8) (by decide) rfl rfl (Nat.le_of_ble_eq_true rfl) dX11_left_20 ?_
    refine V.goto (tgt := 27) dX11_left_23 rfl ?_
    cases hF
    exact V.iret dX11_left_27
/-! MonsterCot$Past.keepImage -/
theorem dX5_keepImage_0 : decode cX5_keepImage 0 = .ok (.aload_n 0, 1) := by decide +kernel
theorem dX5_keepImage_1 : decode cX5_keepImage 1 = .ok (.getfield 22, 3) := by decide +kernel
theorem dX5_keepImage_4 : decode cX5_keepImage 4 = .ok (.aload_n 1, 1) := by decide +kernel
theorem dX5_keepImage_5 : decode cX5_keepImage 5 = .ok (.invokevirtual 40, 3) := by decide +kernel
theorem dX5_keepImage_8 : decode cX5_keepImage 8 = .ok (.aload_n 0, 1) := by decide +kernel
theorem dX5_keepImage_9 : decode cX5_keepImage 9 = .ok (.getfield 17, 3) := by decide +kernel
theorem dX5_keepImage_12 : decode cX5_keepImage 12 = .ok (.aload_n 0, 1) := by decide +kernel
theorem dX5_keepImage_13 : decode cX5_keepImage 13 = .ok (.getfield 26, 3) := by decide +kernel
theorem dX5_keepImage_16 : decode cX5_keepImage 16 = .ok (.invokestatic 68, 3) := by decide +kernel
theorem dX5_keepImage_19 : decode cX5_keepImage 19 = .ok (.aload_n 0, 1) := by decide +kernel
theorem dX5_keepImage_20 : decode cX5_keepImage 20 = .ok (.iconst 1, 1) := by decide +kernel
theorem dX5_keepImage_21 : decode cX5_keepImage 21 = .ok (.putfield 33, 3) := by decide +kernel
theorem dX5_keepImage_24 : decode cX5_keepImage 24 = .ok (.return_, 1) := by decide +kernel
def X5_keepImage (a1 : Nat) (h : Mm) : Option (Unit × Mm) := (bd (X0_copyFrom 40 a1 h) (fun _ h9 => (bd (X11_copy 39 45 h9) (fun _ h12 => (some ((), (wI h12 37 4 (1))))))))
set_option maxRecDepth 100000 in
set_option maxHeartbeats 4000000 in
theorem s_X5_keepImage {X : WX} {o : Mm} {a1 : Nat} {rv : Unit} {hz : Mm} {h : Mm} (ha1 : isBed a1) (hF : X5_keepImage a1 h = some (rv, hz)) : Sat X yX5_keepImage cX5_keepImage 2 (none) 4 [.ref (xa X 37), .ref (xa X a1)] true o h none hz := by
  unfold X5_keepImage at hF
  refine Sat.mk (own := RX5) rfl (by decide +kernel) (Nat.le_of_ble_eq_true rfl) (fun G => ?_)
  refine V.sub (lv2 := [(0, _), (1, _)]) [0, 1] rfl ?_
  refine V.aload_n 0 dX5_keepImage_0 rfl rfl ?_
  refine V.getR (v := 40) fl_X5_22 sh_37 rfl fx_37_2 (by decide) dX5_keepImage_1 ?_
  refine V.aload_n 1 dX5_keepImage_4 rfl rfl ?_
  obtain ⟨r7, h9, hc8, hF⟩ := bd_s hF
  refine V.callVv mf_X0_copyFrom ml_X5_40 sh_40 (s_X0_copyFrom isb_40 ha1 hc8) (by decide) rfl rfl (Nat.le_of_ble_eq_true rfl) dX5_keepImage_5 ?_
  refine V.aload_n 0 dX5_keepImage_8 rfl rfl ?_
  refine V.getR (v := 39) fl_X5_17 sh_37 rfl fx_37_1 (by decide) dX5_keepImage_9 ?_
  refine V.aload_n 0 dX5_keepImage_12 rfl rfl ?_
  refine V.getR (v := 45) fl_X5_26 sh_37 rfl fx_37_3 (by decide) dX5_keepImage_13 ?_
  obtain ⟨r10, h12, hc11, hF⟩ := bd_s hF
  refine V.callNv mf_X11_copy ml_X5_68 (s_X11_copy io_39 io_45 hc11) (by decide) rfl rfl (Nat.le_of_ble_eq_true rfl) dX5_keepImage_16 ?_
  refine V.aload_n 0 dX5_keepImage_19 rfl rfl ?_
  refine V.iconst (v := 1) dX5_keepImage_20 rfl ?_
  refine V.putI fl_X5_33 rfl (tyX5_ok 4 (by decide)) rfl rfl sh_37 rfl km_37 dX5_keepImage_21 ?_
  cases hF
  exact V.vret dX5_keepImage_24
/-! MonsterCot.image -/
theorem dX11_image_0 : decode cX11_image 0 = .ok (.aload_n 0, 1) := by decide +kernel
theorem dX11_image_1 : decode cX11_image 1 = .ok (.getfield 42, 3) := by decide +kernel
theorem dX11_image_4 : decode cX11_image 4 = .ok (.invokevirtual 124, 3) := by decide +kernel
theorem dX11_image_7 : decode cX11_image 7 = .ok (.ifCond .ne 5, 3) := by decide +kernel
theorem dX11_image_10 : decode cX11_image 10 = .ok (.iconst (-1), 1) := by decide +kernel
theorem dX11_image_11 : decode cX11_image 11 = .ok (.ireturn, 1) := by decide +kernel
theorem dX11_image_12 : decode cX11_image 12 = .ok (.aload_n 0, 1) := by decide +kernel
theorem dX11_image_13 : decode cX11_image 13 = .ok (.getfield 75, 3) := by decide +kernel
theorem dX11_image_16 : decode cX11_image 16 = .ok (.aload_n 0, 1) := by decide +kernel
theorem dX11_image_17 : decode cX11_image 17 = .ok (.getfield 65, 3) := by decide +kernel
theorem dX11_image_20 : decode cX11_image 20 = .ok (.invokevirtual 373, 3) := by decide +kernel
theorem dX11_image_23 : decode cX11_image 23 = .ok (.aload_n 0, 1) := by decide +kernel
theorem dX11_image_24 : decode cX11_image 24 = .ok (.getfield 65, 3) := by decide +kernel
theorem dX11_image_27 : decode cX11_image 27 = .ok (.getfield 234, 3) := by decide +kernel
theorem dX11_image_30 : decode cX11_image 30 = .ok (.ireturn, 1) := by decide +kernel
def X11_image (h : Mm) : Option (Int32 × Mm) := (bp (X1_stands 13 h) (fun r6 => (if r6 = true then (bd (X5_keepImage 27 h) (fun _ h10 => (some ((h10.1 27 6), h10)))) else (some ((-1), h)))))
set_option maxRecDepth 100000 in
set_option maxHeartbeats 4000000 in
theorem s_X11_image {X : WX} {o : Mm} {rv : Int32} {hz : Mm} {h : Mm} (hF : X11_image h = some (rv, hz)) : Sat X yX11_image cX11_image 1 (some .int) 5 [.ref (xa X 0)] true o h (some (.int rv)) hz := by
  unfold X11_image at hF
  refine Sat.mk (own := RX11) rfl (by decide +kernel) (Nat.le_of_ble_eq_true rfl) (fun G => ?_)
  refine V.sub (lv2 := [(0, _)]) [0] rfl ?_
  refine V.aload_n 0 dX11_image_0 rfl rfl ?_
  refine V.getR (v := 13) fl_X11_42 sh_0 rfl fx_0_4 (by decide) dX11_image_1 ?_
  obtain ⟨r6, hc7, hF⟩ := bp_s hF
  refine V.callVi mf_X1_stands ml_X11_124 sh_13 (s_X1_stands (Or.inr rfl) hc7) (by decide) rfl rfl (Nat.le_of_ble_eq_true rfl) dX11_image_4 ?_
  refine V.ifz_ne (tgt := 12) dX11_image_7 rfl (fun c => ?_) (fun c => ?_)
  · replace hF := (if_pos c).symm.trans hF
    refine V.aload_n 0 dX11_image_12 rfl rfl ?_
    refine V.getR (v := 37) fl_X11_75 sh_0 rfl fx_0_9 (by decide) dX11_image_13 ?_
    refine V.aload_n 0 dX11_image_16 rfl rfl ?_
    refine V.getR (v := 27) fl_X11_65 sh_0 rfl fx_0_7 (by decide) dX11_image_17 ?_
    obtain ⟨r8, h10, hc9, hF⟩ := bd_s hF
    refine V.callVv mf_X5_keepImage ml_X11_373 sh_37 (s_X5_keepImage isb_27 hc9) (by decide) rfl rfl (Nat.le_of_ble_eq_true rfl) dX11_image_20 ?_
    refine V.aload_n 0 dX11_image_23 rfl rfl ?_
    refine V.getR (v := 27) fl_X11_65 sh_0 rfl fx_0_7 (by decide) dX11_image_24 ?_
    refine V.getI fl_X11_234 sh_27 rfl km_27 dX11_image_27 ?_
    cases hF
    exact V.iret dX11_image_30
  · replace hF := (if_neg c).symm.trans hF
    refine V.iconst (v := -1) dX11_image_10 rfl ?_
    cases hF
    exact V.iret dX11_image_11
/-! MonsterCot$Past.bringBack -/
theorem dX5_bringBack_0 : decode cX5_bringBack 0 = .ok (.aload_n 0, 1) := by decide +kernel
theorem dX5_bringBack_1 : decode cX5_bringBack 1 = .ok (.getfield 33, 3) := by decide +kernel
theorem dX5_bringBack_4 : decode cX5_bringBack 4 = .ok (.ifCond .ne 5, 3) := by decide +kernel
theorem dX5_bringBack_7 : decode cX5_bringBack 7 = .ok (.iconst 0, 1) := by decide +kernel
theorem dX5_bringBack_8 : decode cX5_bringBack 8 = .ok (.ireturn, 1) := by decide +kernel
theorem dX5_bringBack_9 : decode cX5_bringBack 9 = .ok (.aload_n 1, 1) := by decide +kernel
theorem dX5_bringBack_10 : decode cX5_bringBack 10 = .ok (.aload_n 0, 1) := by decide +kernel
theorem dX5_bringBack_11 : decode cX5_bringBack 11 = .ok (.getfield 22, 3) := by decide +kernel
theorem dX5_bringBack_14 : decode cX5_bringBack 14 = .ok (.invokevirtual 40, 3) := by decide +kernel
theorem dX5_bringBack_17 : decode cX5_bringBack 17 = .ok (.aload_n 0, 1) := by decide +kernel
theorem dX5_bringBack_18 : decode cX5_bringBack 18 = .ok (.getfield 26, 3) := by decide +kernel
theorem dX5_bringBack_21 : decode cX5_bringBack 21 = .ok (.aload_n 0, 1) := by decide +kernel
theorem dX5_bringBack_22 : decode cX5_bringBack 22 = .ok (.getfield 17, 3) := by decide +kernel
theorem dX5_bringBack_25 : decode cX5_bringBack 25 = .ok (.invokestatic 68, 3) := by decide +kernel
theorem dX5_bringBack_28 : decode cX5_bringBack 28 = .ok (.aload_n 0, 1) := by decide +kernel
theorem dX5_bringBack_29 : decode cX5_bringBack 29 = .ok (.iconst 0, 1) := by decide +kernel
theorem dX5_bringBack_30 : decode cX5_bringBack 30 = .ok (.putfield 29, 3) := by decide +kernel
theorem dX5_bringBack_33 : decode cX5_bringBack 33 = .ok (.iconst 1, 1) := by decide +kernel
theorem dX5_bringBack_34 : decode cX5_bringBack 34 = .ok (.ireturn, 1) := by decide +kernel
def X5_bringBack (a1 : Nat) (h : Mm) : Option (Bool × Mm) := (if (h.1 37 4) = 0 then (some (false, h)) else (bd (X0_copyFrom a1 40 h) (fun _ h9 => (bd (X11_copy 45 39 h9) (fun _ h12 => (some (true, (wI h12 37 5 (0)))))))))
set_option maxRecDepth 100000 in
set_option maxHeartbeats 4000000 in
theorem s_X5_bringBack {X : WX} {o : Mm} {a1 : Nat} {rv : Bool} {hz : Mm} {h : Mm} (ha1 : isBed a1) (hF : X5_bringBack a1 h = some (rv, hz)) : Sat X yX5_bringBack cX5_bringBack 2 (some .boolean) 4 [.ref (xa X 37), .ref (xa X a1)] true o h (some (.int (b2i rv))) hz := by
  unfold X5_bringBack at hF
  refine Sat.mk (own := RX5) rfl (by decide +kernel) (Nat.le_of_ble_eq_true rfl) (fun G => ?_)
  refine V.sub (lv2 := [(0, _), (1, _)]) [0, 1] rfl ?_
  refine V.aload_n 0 dX5_bringBack_0 rfl rfl ?_
  refine V.getI fl_X5_33 sh_37 rfl km_37 dX5_bringBack_1 ?_
  refine V.if_ne (tgt := 9) dX5_bringBack_4 rfl (fun c => ?_) (fun c => ?_)
  · replace hF := (if_neg c).symm.trans hF
    refine V.aload_n 1 dX5_bringBack_9 rfl rfl ?_
    refine V.aload_n 0 dX5_bringBack_10 rfl rfl ?_
    refine V.getR (v := 40) fl_X5_22 sh_37 rfl fx_37_2 (by decide) dX5_bringBack_11 ?_
    obtain ⟨r7, h9, hc8, hF⟩ := bd_s hF
    refine V.callVv mf_X0_copyFrom ml_X5_40 ha1.sh (s_X0_copyFrom ha1 isb_40 hc8) (by decide) rfl rfl (Nat.le_of_ble_eq_true rfl) dX5_bringBack_14 ?_
    refine V.aload_n 0 dX5_bringBack_17 rfl rfl ?_
    refine V.getR (v := 45) fl_X5_26 sh_37 rfl fx_37_3 (by decide) dX5_bringBack_18 ?_
    refine V.aload_n 0 dX5_bringBack_21 rfl rfl ?_
    refine V.getR (v := 39) fl_X5_17 sh_37 rfl fx_37_1 (by decide) dX5_bringBack_22 ?_
    obtain ⟨r10, h12, hc11, hF⟩ := bd_s hF
    refine V.callNv mf_X11_copy ml_X5_68 (s_X11_copy io_45 io_39 hc11) (by decide) rfl rfl (Nat.le_of_ble_eq_true rfl) dX5_bringBack_25 ?_
    refine V.aload_n 0 dX5_bringBack_28 rfl rfl ?_
    refine V.iconst (v := 0) dX5_bringBack_29 rfl ?_
    refine V.putI fl_X5_29 rfl (tyX5_ok 5 (by decide)) rfl rfl sh_37 rfl km_37 dX5_bringBack_30 ?_
    refine V.iconst (v := 1) dX5_bringBack_33 rfl ?_
    cases hF
    exact V.bret dX5_bringBack_34
  · replace hF := (if_pos c).symm.trans hF
    refine V.iconst (v := 0) dX5_bringBack_7 rfl ?_
    cases hF
    exact V.bret dX5_bringBack_8
/-! MonsterCot.back -/
theorem dX11_back_0 : decode cX11_back 0 = .ok (.aload_n 0, 1) := by decide +kernel
theorem dX11_back_1 : decode cX11_back 1 = .ok (.getfield 75, 3) := by decide +kernel
theorem dX11_back_4 : decode cX11_back 4 = .ok (.aload_n 0, 1) := by decide +kernel
theorem dX11_back_5 : decode cX11_back 5 = .ok (.getfield 65, 3) := by decide +kernel
theorem dX11_back_8 : decode cX11_back 8 = .ok (.invokevirtual 376, 3) := by decide +kernel
theorem dX11_back_11 : decode cX11_back 11 = .ok (.ifCond .eq 13, 3) := by decide +kernel
theorem dX11_back_14 : decode cX11_back 14 = .ok (.aload_n 0, 1) := by decide +kernel
theorem dX11_back_15 : decode cX11_back 15 = .ok (.getfield 65, 3) := by decide +kernel
theorem dX11_back_18 : decode cX11_back 18 = .ok (.getfield 234, 3) := by decide +kernel
theorem dX11_back_21 : decode cX11_back 21 = .ok (.goto 4, 3) := by decide +kernel
theorem dX11_back_24 : decode cX11_back 24 = .ok (.iconst (-1), 1) := by decide +kernel
theorem dX11_back_25 : decode cX11_back 25 = .ok (.ireturn, 1) := by decide +kernel
def X11_back (h : Mm) : Option (Int32 × Mm) := (bd (X5_bringBack 27 h) (fun r4 h6 => (if r4 = true then (some ((h6.1 27 6), h6)) else (some ((-1), h6)))))
set_option maxRecDepth 100000 in
set_option maxHeartbeats 4000000 in
theorem s_X11_back {X : WX} {o : Mm} {rv : Int32} {hz : Mm} {h : Mm} (hF : X11_back h = some (rv, hz)) : Sat X yX11_back cX11_back 1 (some .int) 5 [.ref (xa X 0)] true o h (some (.int rv)) hz := by
  unfold X11_back at hF
  refine Sat.mk (own := RX11) rfl (by decide +kernel) (Nat.le_of_ble_eq_true rfl) (fun G => ?_)
  refine V.sub (lv2 := [(0, _)]) [0] rfl ?_
  refine V.aload_n 0 dX11_back_0 rfl rfl ?_
  refine V.getR (v := 37) fl_X11_75 sh_0 rfl fx_0_9 (by decide) dX11_back_1 ?_
  refine V.aload_n 0 dX11_back_4 rfl rfl ?_
  refine V.getR (v := 27) fl_X11_65 sh_0 rfl fx_0_7 (by decide) dX11_back_5 ?_
  obtain ⟨r4, h6, hc5, hF⟩ := bd_s hF
  refine V.callVi mf_X5_bringBack ml_X11_376 sh_37 (s_X5_bringBack isb_27 hc5) (by decide) rfl rfl (Nat.le_of_ble_eq_true rfl) dX11_back_8 ?_
  refine V.ifz_eq (tgt := 24) dX11_back_11 rfl (fun c => ?_) (fun c => ?_)
  · replace hF := (if_neg c).symm.trans hF
    refine V.iconst (v := -1) dX11_back_24 rfl ?_
    cases hF
    exact V.iret dX11_back_25
  · replace hF := (if_pos c).symm.trans hF
    refine V.aload_n 0 dX11_back_14 rfl rfl ?_
    refine V.getR (v := 27) fl_X11_65 sh_0 rfl fx_0_7 (by decide) dX11_back_15 ?_
    refine V.getI fl_X11_234 sh_27 rfl km_27 dX11_back_18 ?_
    refine V.goto (tgt := 25) dX11_back_21 rfl ?_
    cases hF
    exact V.iret dX11_back_25
/-! MonsterCot.countOfNow -/
theorem dX11_countOfNow_0 : decode cX11_countOfNow 0 = .ok (.iload_n 1, 1) := by decide +kernel
theorem dX11_countOfNow_1 : decode cX11_countOfNow 1 = .ok (.tableswitch 148 6 15 #[55, 63, 71, 79, 87, 103, 119, 124, 132, 140], 55) := by decide +kernel
theorem dX11_countOfNow_56 : decode cX11_countOfNow 56 = .ok (.aload_n 0, 1) := by decide +kernel
theorem dX11_countOfNow_57 : decode cX11_countOfNow 57 = .ok (.getfield 65, 3) := by decide +kernel
theorem dX11_countOfNow_60 : decode cX11_countOfNow 60 = .ok (.getfield 234, 3) := by decide +kernel
theorem dX11_countOfNow_63 : decode cX11_countOfNow 63 = .ok (.ireturn, 1) := by decide +kernel
theorem dX11_countOfNow_64 : decode cX11_countOfNow 64 = .ok (.aload_n 0, 1) := by decide +kernel
theorem dX11_countOfNow_65 : decode cX11_countOfNow 65 = .ok (.getfield 65, 3) := by decide +kernel
theorem dX11_countOfNow_68 : decode cX11_countOfNow 68 = .ok (.getfield 221, 3) := by decide +kernel
theorem dX11_countOfNow_71 : decode cX11_countOfNow 71 = .ok (.ireturn, 1) := by decide +kernel
theorem dX11_countOfNow_72 : decode cX11_countOfNow 72 = .ok (.aload_n 0, 1) := by decide +kernel
theorem dX11_countOfNow_73 : decode cX11_countOfNow 73 = .ok (.getfield 65, 3) := by decide +kernel
theorem dX11_countOfNow_76 : decode cX11_countOfNow 76 = .ok (.getfield 390, 3) := by decide +kernel
theorem dX11_countOfNow_79 : decode cX11_countOfNow 79 = .ok (.ireturn, 1) := by decide +kernel
theorem dX11_countOfNow_80 : decode cX11_countOfNow 80 = .ok (.aload_n 0, 1) := by decide +kernel
theorem dX11_countOfNow_81 : decode cX11_countOfNow 81 = .ok (.getfield 65, 3) := by decide +kernel
theorem dX11_countOfNow_84 : decode cX11_countOfNow 84 = .ok (.getfield 393, 3) := by decide +kernel
theorem dX11_countOfNow_87 : decode cX11_countOfNow 87 = .ok (.ireturn, 1) := by decide +kernel
theorem dX11_countOfNow_88 : decode cX11_countOfNow 88 = .ok (.aload_n 0, 1) := by decide +kernel
theorem dX11_countOfNow_89 : decode cX11_countOfNow 89 = .ok (.getfield 65, 3) := by decide +kernel
theorem dX11_countOfNow_92 : decode cX11_countOfNow 92 = .ok (.getfield 396, 3) := by decide +kernel
theorem dX11_countOfNow_95 : decode cX11_countOfNow 95 = .ok (.ifCond .eq 7, 3) := by decide +kernel
theorem dX11_countOfNow_98 : decode cX11_countOfNow 98 = .ok (.iconst 1, 1) := by decide +kernel
theorem dX11_countOfNow_99 : decode cX11_countOfNow 99 = .ok (.goto 4, 3) := by decide +kernel
theorem dX11_countOfNow_102 : decode cX11_countOfNow 102 = .ok (.iconst 0, 1) := by decide +kernel
theorem dX11_countOfNow_103 : decode cX11_countOfNow 103 = .ok (.ireturn, 1) := by decide +kernel
theorem dX11_countOfNow_104 : decode cX11_countOfNow 104 = .ok (.aload_n 0, 1) := by decide +kernel
theorem dX11_countOfNow_105 : decode cX11_countOfNow 105 = .ok (.getfield 65, 3) := by decide +kernel
theorem dX11_countOfNow_108 : decode cX11_countOfNow 108 = .ok (.getfield 400, 3) := by decide +kernel
theorem dX11_countOfNow_111 : decode cX11_countOfNow 111 = .ok (.ifCond .eq 7, 3) := by decide +kernel
theorem dX11_countOfNow_114 : decode cX11_countOfNow 114 = .ok (.iconst 1, 1) := by decide +kernel
theorem dX11_countOfNow_115 : decode cX11_countOfNow 115 = .ok (.goto 4, 3) := by decide +kernel
theorem dX11_countOfNow_118 : decode cX11_countOfNow 118 = .ok (.iconst 0, 1) := by decide +kernel
theorem dX11_countOfNow_119 : decode cX11_countOfNow 119 = .ok (.ireturn, 1) := by decide +kernel
theorem dX11_countOfNow_120 : decode cX11_countOfNow 120 = .ok (.aload_n 0, 1) := by decide +kernel
theorem dX11_countOfNow_121 : decode cX11_countOfNow 121 = .ok (.getfield 192, 3) := by decide +kernel
theorem dX11_countOfNow_124 : decode cX11_countOfNow 124 = .ok (.ireturn, 1) := by decide +kernel
theorem dX11_countOfNow_125 : decode cX11_countOfNow 125 = .ok (.aload_n 0, 1) := by decide +kernel
theorem dX11_countOfNow_126 : decode cX11_countOfNow 126 = .ok (.getfield 91, 3) := by decide +kernel
theorem dX11_countOfNow_129 : decode cX11_countOfNow 129 = .ok (.getfield 320, 3) := by decide +kernel
theorem dX11_countOfNow_132 : decode cX11_countOfNow 132 = .ok (.ireturn, 1) := by decide +kernel
theorem dX11_countOfNow_133 : decode cX11_countOfNow 133 = .ok (.aload_n 0, 1) := by decide +kernel
theorem dX11_countOfNow_134 : decode cX11_countOfNow 134 = .ok (.getfield 65, 3) := by decide +kernel
theorem dX11_countOfNow_137 : decode cX11_countOfNow 137 = .ok (.invokestatic 403, 3) := by decide +kernel
theorem dX11_countOfNow_140 : decode cX11_countOfNow 140 = .ok (.ireturn, 1) := by decide +kernel
theorem dX11_countOfNow_141 : decode cX11_countOfNow 141 = .ok (.aload_n 0, 1) := by decide +kernel
theorem dX11_countOfNow_142 : decode cX11_countOfNow 142 = .ok (.getfield 75, 3) := by decide +kernel
theorem dX11_countOfNow_145 : decode cX11_countOfNow 145 = .ok (.getfield 250, 3) := by decide +kernel
theorem dX11_countOfNow_148 : decode cX11_countOfNow 148 = .ok (.ireturn, 1) := by decide +kernel
theorem dX11_countOfNow_149 : decode cX11_countOfNow 149 = .ok (.ldc_w 261, 3) := by decide +kernel
theorem dX11_countOfNow_152 : decode cX11_countOfNow 152 = .ok (.ireturn, 1) := by decide +kernel
def X11_countOfNow (x1 : Int32) (h : Mm) : Option Int32 := (if x1 = 6 then (some (h.1 27 6)) else (if x1 = 7 then (some (h.1 27 5)) else (if x1 = 8 then (some (h.1 27 7)) else (if x1 = 9 then (some (h.1 27 8)) else (if x1 = 10 then (if (h.1 27 11) = 0 then (some (0)) else (some (1))) else (if x1 = 11 then (if (h.1 27 12) = 0 then (some (0)) else (some (1))) else (if x1 = 12 then (some (h.1 0 12)) else (if x1 = 13 then (some (h.1 249 4)) else (if x1 = 14 then (bp (X5_lengthOf 27 h) (fun r3 => (some r3))) else (if x1 = 15 then (some (h.1 37 5)) else (some (-1000000))))))))))))
set_option maxRecDepth 100000 in
set_option maxHeartbeats 4000000 in
theorem s_X11_countOfNow {X : WX} {o : Mm} {x1 : Int32} {rv : Int32} {h : Mm} (hF : X11_countOfNow x1 h = some rv) : Sat X yX11_countOfNow cX11_countOfNow 2 (some .int) 3 [.ref (xa X 0), .int x1] true o h (some (.int rv)) h := by
  unfold X11_countOfNow at hF
  refine Sat.mk (own := RX11) rfl (by decide +kernel) (Nat.le_of_ble_eq_true rfl) (fun G => ?_)
  refine V.sub (lv2 := [(0, _), (1, _)]) [0, 1] rfl ?_
  refine V.iload_n 1 dX11_countOfNow_0 rfl rfl ?_
  by_cases c0 : x1 = 6
  · replace hF := (if_pos c0).symm.trans hF
    refine V.tswIn (tgt := 56) c0 dX11_countOfNow_1 (by decide) (by decide) rfl rfl ?_
    refine V.aload_n 0 dX11_countOfNow_56 rfl rfl ?_
    refine V.getR (v := 27) fl_X11_65 sh_0 rfl fx_0_7 (by decide) dX11_countOfNow_57 ?_
    refine V.getI fl_X11_234 sh_27 rfl km_27 dX11_countOfNow_60 ?_
    cases hF
    exact V.iret dX11_countOfNow_63
  replace hF := (if_neg c0).symm.trans hF
  by_cases c1 : x1 = 7
  · replace hF := (if_pos c1).symm.trans hF
    refine V.tswIn (tgt := 64) c1 dX11_countOfNow_1 (by decide) (by decide) rfl rfl ?_
    refine V.aload_n 0 dX11_countOfNow_64 rfl rfl ?_
    refine V.getR (v := 27) fl_X11_65 sh_0 rfl fx_0_7 (by decide) dX11_countOfNow_65 ?_
    refine V.getI fl_X11_221 sh_27 rfl km_27 dX11_countOfNow_68 ?_
    cases hF
    exact V.iret dX11_countOfNow_71
  replace hF := (if_neg c1).symm.trans hF
  by_cases c2 : x1 = 8
  · replace hF := (if_pos c2).symm.trans hF
    refine V.tswIn (tgt := 72) c2 dX11_countOfNow_1 (by decide) (by decide) rfl rfl ?_
    refine V.aload_n 0 dX11_countOfNow_72 rfl rfl ?_
    refine V.getR (v := 27) fl_X11_65 sh_0 rfl fx_0_7 (by decide) dX11_countOfNow_73 ?_
    refine V.getI fl_X11_390 sh_27 rfl km_27 dX11_countOfNow_76 ?_
    cases hF
    exact V.iret dX11_countOfNow_79
  replace hF := (if_neg c2).symm.trans hF
  by_cases c3 : x1 = 9
  · replace hF := (if_pos c3).symm.trans hF
    refine V.tswIn (tgt := 80) c3 dX11_countOfNow_1 (by decide) (by decide) rfl rfl ?_
    refine V.aload_n 0 dX11_countOfNow_80 rfl rfl ?_
    refine V.getR (v := 27) fl_X11_65 sh_0 rfl fx_0_7 (by decide) dX11_countOfNow_81 ?_
    refine V.getI fl_X11_393 sh_27 rfl km_27 dX11_countOfNow_84 ?_
    cases hF
    exact V.iret dX11_countOfNow_87
  replace hF := (if_neg c3).symm.trans hF
  by_cases c4 : x1 = 10
  · replace hF := (if_pos c4).symm.trans hF
    refine V.tswIn (tgt := 88) c4 dX11_countOfNow_1 (by decide) (by decide) rfl rfl ?_
    refine V.aload_n 0 dX11_countOfNow_88 rfl rfl ?_
    refine V.getR (v := 27) fl_X11_65 sh_0 rfl fx_0_7 (by decide) dX11_countOfNow_89 ?_
    refine V.getI fl_X11_396 sh_27 rfl km_27 dX11_countOfNow_92 ?_
    refine V.if_eq (tgt := 102) dX11_countOfNow_95 rfl (fun c => ?_) (fun c => ?_)
    · replace hF := (if_pos c).symm.trans hF
      refine V.iconst (v := 0) dX11_countOfNow_102 rfl ?_
      cases hF
      exact V.iret dX11_countOfNow_103
    · replace hF := (if_neg c).symm.trans hF
      refine V.iconst (v := 1) dX11_countOfNow_98 rfl ?_
      refine V.goto (tgt := 103) dX11_countOfNow_99 rfl ?_
      cases hF
      exact V.iret dX11_countOfNow_103
  replace hF := (if_neg c4).symm.trans hF
  by_cases c5 : x1 = 11
  · replace hF := (if_pos c5).symm.trans hF
    refine V.tswIn (tgt := 104) c5 dX11_countOfNow_1 (by decide) (by decide) rfl rfl ?_
    refine V.aload_n 0 dX11_countOfNow_104 rfl rfl ?_
    refine V.getR (v := 27) fl_X11_65 sh_0 rfl fx_0_7 (by decide) dX11_countOfNow_105 ?_
    refine V.getI fl_X11_400 sh_27 rfl km_27 dX11_countOfNow_108 ?_
    refine V.if_eq (tgt := 118) dX11_countOfNow_111 rfl (fun c => ?_) (fun c => ?_)
    · replace hF := (if_pos c).symm.trans hF
      refine V.iconst (v := 0) dX11_countOfNow_118 rfl ?_
      cases hF
      exact V.iret dX11_countOfNow_119
    · replace hF := (if_neg c).symm.trans hF
      refine V.iconst (v := 1) dX11_countOfNow_114 rfl ?_
      refine V.goto (tgt := 119) dX11_countOfNow_115 rfl ?_
      cases hF
      exact V.iret dX11_countOfNow_119
  replace hF := (if_neg c5).symm.trans hF
  by_cases c6 : x1 = 12
  · replace hF := (if_pos c6).symm.trans hF
    refine V.tswIn (tgt := 120) c6 dX11_countOfNow_1 (by decide) (by decide) rfl rfl ?_
    refine V.aload_n 0 dX11_countOfNow_120 rfl rfl ?_
    refine V.getI fl_X11_192 sh_0 rfl km_0 dX11_countOfNow_121 ?_
    cases hF
    exact V.iret dX11_countOfNow_124
  replace hF := (if_neg c6).symm.trans hF
  by_cases c7 : x1 = 13
  · replace hF := (if_pos c7).symm.trans hF
    refine V.tswIn (tgt := 125) c7 dX11_countOfNow_1 (by decide) (by decide) rfl rfl ?_
    refine V.aload_n 0 dX11_countOfNow_125 rfl rfl ?_
    refine V.getR (v := 249) fl_X11_91 sh_0 rfl fx_0_11 (by decide) dX11_countOfNow_126 ?_
    refine V.getI fl_X11_320 sh_249 rfl km_249 dX11_countOfNow_129 ?_
    cases hF
    exact V.iret dX11_countOfNow_132
  replace hF := (if_neg c7).symm.trans hF
  by_cases c8 : x1 = 14
  · replace hF := (if_pos c8).symm.trans hF
    refine V.tswIn (tgt := 133) c8 dX11_countOfNow_1 (by decide) (by decide) rfl rfl ?_
    refine V.aload_n 0 dX11_countOfNow_133 rfl rfl ?_
    refine V.getR (v := 27) fl_X11_65 sh_0 rfl fx_0_7 (by decide) dX11_countOfNow_134 ?_
    obtain ⟨r3, hc4, hF⟩ := bp_s hF
    refine V.callSi mf_X5_lengthOf ml_X11_403 (s_X5_lengthOf isb_27 hc4) (by decide) rfl rfl (Nat.le_of_ble_eq_true rfl) dX11_countOfNow_137 ?_
    cases hF
    exact V.iret dX11_countOfNow_140
  replace hF := (if_neg c8).symm.trans hF
  by_cases c9 : x1 = 15
  · replace hF := (if_pos c9).symm.trans hF
    refine V.tswIn (tgt := 141) c9 dX11_countOfNow_1 (by decide) (by decide) rfl rfl ?_
    refine V.aload_n 0 dX11_countOfNow_141 rfl rfl ?_
    refine V.getR (v := 37) fl_X11_75 sh_0 rfl fx_0_9 (by decide) dX11_countOfNow_142 ?_
    refine V.getI fl_X11_250 sh_37 rfl km_37 dX11_countOfNow_145 ?_
    cases hF
    exact V.iret dX11_countOfNow_148
  replace hF := (if_neg c9).symm.trans hF
  refine V.tswOut (tgt := 149) dX11_countOfNow_1 (tsw_out (by decide) (by decide) [6, 7, 8, 9, 10, 11, 12, 13, 14, 15] rfl (fun v hv => ?_)) rfl ?_
  · simp only [List.mem_cons, List.not_mem_nil, or_false] at hv
    rcases hv with rfl | rfl | rfl | rfl | rfl | rfl | rfl | rfl | rfl | rfl <;> assumption
  refine V.ldcw (v := -1000000) dX11_countOfNow_149 kc_X11_261 ?_
  cases hF
  exact V.iret dX11_countOfNow_152
