/-! MonsterCot$Land.books -/
theorem dX1_books_0 : decode cX1_books 0 = .ok (.aload_n 0, 1) := by decide +kernel
theorem dX1_books_1 : decode cX1_books 1 = .ok (.getfield 9, 3) := by decide +kernel
theorem dX1_books_4 : decode cX1_books 4 = .ok (.iconst 1, 1) := by decide +kernel
theorem dX1_books_5 : decode cX1_books 5 = .ok (.invokestatic 31, 3) := by decide +kernel
theorem dX1_books_8 : decode cX1_books 8 = .ok (.ireturn, 1) := by decide +kernel
def X1_books (a0 : Nat) (h : Mm) : Option Int32 := (bp (X11_at (a0 + 1) (1 : Int32) h) (fun r3 => (some r3)))
set_option maxRecDepth 100000 in
set_option maxHeartbeats 4000000 in
theorem s_X1_books {X : WX} {o : Mm} {a0 : Nat} {rv : Int32} {h : Mm} (ha0 : isLd a0) (hF : X1_books a0 h = some rv) : Sat X yX1_books cX1_books 1 (some .int) 2 [.ref (xa X a0)] true o h (some (.int rv)) h := by
  unfold X1_books at hF
  refine Sat.mk (own := RX1) rfl (by decide +kernel) (Nat.le_of_ble_eq_true rfl) (fun G => ?_)
  refine V.sub (lv2 := [(0, _)]) [0] rfl ?_
  refine V.aload_n 0 dX1_books_0 rfl rfl ?_
  refine V.getR (v := a0 + 1) fl_X1_9 ha0.sh rfl ha0.fx0 (by have := ha0.lt; omega) dX1_books_1 ?_
  refine V.iconst (v := 1) dX1_books_4 rfl ?_
  obtain ⟨r3, hc4, hF⟩ := bp_s hF
  refine V.callNi mf_X11_at ml_X1_31 (s_X11_at (Or.inl ha0.a0) hc4) (by decide) rfl rfl (Nat.le_of_ble_eq_true rfl) dX1_books_5 ?_
  cases hF
  exact V.iret dX1_books_8
/-! MonsterCot$Land.houses -/
theorem dX1_houses_0 : decode cX1_houses 0 = .ok (.aload_n 0, 1) := by decide +kernel
theorem dX1_houses_1 : decode cX1_houses 1 = .ok (.getfield 9, 3) := by decide +kernel
theorem dX1_houses_4 : decode cX1_houses 4 = .ok (.iconst 2, 1) := by decide +kernel
theorem dX1_houses_5 : decode cX1_houses 5 = .ok (.invokestatic 31, 3) := by decide +kernel
theorem dX1_houses_8 : decode cX1_houses 8 = .ok (.ireturn, 1) := by decide +kernel
def X1_houses (a0 : Nat) (h : Mm) : Option Int32 := (bp (X11_at (a0 + 1) (2 : Int32) h) (fun r3 => (some r3)))
set_option maxRecDepth 100000 in
set_option maxHeartbeats 4000000 in
theorem s_X1_houses {X : WX} {o : Mm} {a0 : Nat} {rv : Int32} {h : Mm} (ha0 : isLd a0) (hF : X1_houses a0 h = some rv) : Sat X yX1_houses cX1_houses 1 (some .int) 2 [.ref (xa X a0)] true o h (some (.int rv)) h := by
  unfold X1_houses at hF
  refine Sat.mk (own := RX1) rfl (by decide +kernel) (Nat.le_of_ble_eq_true rfl) (fun G => ?_)
  refine V.sub (lv2 := [(0, _)]) [0] rfl ?_
  refine V.aload_n 0 dX1_houses_0 rfl rfl ?_
  refine V.getR (v := a0 + 1) fl_X1_9 ha0.sh rfl ha0.fx0 (by have := ha0.lt; omega) dX1_houses_1 ?_
  refine V.iconst (v := 2) dX1_houses_4 rfl ?_
  obtain ⟨r3, hc4, hF⟩ := bp_s hF
  refine V.callNi mf_X11_at ml_X1_31 (s_X11_at (Or.inl ha0.a0) hc4) (by decide) rfl rfl (Nat.le_of_ble_eq_true rfl) dX1_houses_5 ?_
  cases hF
  exact V.iret dX1_houses_8
/-! MonsterCot$Tape.take -/
theorem dX7_take_0 : decode cX7_take 0 = .ok (.aload_n 0, 1) := by decide +kernel
theorem dX7_take_1 : decode cX7_take 1 = .ok (.invokevirtual 30, 3) := by decide +kernel
theorem dX7_take_4 : decode cX7_take 4 = .ok (.iload_n 1, 1) := by decide +kernel
theorem dX7_take_5 : decode cX7_take 5 = .ok (.if_icmp .eq 5, 3) := by decide +kernel
theorem dX7_take_8 : decode cX7_take 8 = .ok (.iconst 0, 1) := by decide +kernel
theorem dX7_take_9 : decode cX7_take 9 = .ok (.ireturn, 1) := by decide +kernel
theorem dX7_take_10 : decode cX7_take 10 = .ok (.aload_n 0, 1) := by decide +kernel
theorem dX7_take_11 : decode cX7_take 11 = .ok (.dup, 1) := by decide +kernel
theorem dX7_take_12 : decode cX7_take 12 = .ok (.getfield 27, 3) := by decide +kernel
theorem dX7_take_15 : decode cX7_take 15 = .ok (.iconst 1, 1) := by decide +kernel
theorem dX7_take_16 : decode cX7_take 16 = .ok (.iadd, 1) := by decide +kernel
theorem dX7_take_17 : decode cX7_take 17 = .ok (.putfield 27, 3) := by decide +kernel
theorem dX7_take_20 : decode cX7_take 20 = .ok (.iconst 1, 1) := by decide +kernel
theorem dX7_take_21 : decode cX7_take 21 = .ok (.ireturn, 1) := by decide +kernel
def X7_take (n : Nat) (x1 : Int32) (h : Mm) : Option (Bool × Mm) := (bd (X7_sign n h) (fun r4 h6 => (if r4 = x1 then (some (true, (wI h6 1 2 ((h6.1 1 2) + (1 : Int32))))) else (some (false, h6)))))
set_option maxRecDepth 100000 in
set_option maxHeartbeats 4000000 in
theorem s_X7_take {X : WX} {o : Mm} {n : Nat} {x1 : Int32} {rv : Bool} {hz : Mm} {h : Mm} (hF : X7_take n x1 h = some (rv, hz)) : Sat X yX7_take cX7_take 2 (some .boolean) 2 [.ref (xa X 1), .int x1] true o h (some (.int (b2i rv))) hz := by
  unfold X7_take at hF
  refine Sat.mk (own := RX7) rfl (by decide +kernel) (Nat.le_of_ble_eq_true rfl) (fun G => ?_)
  refine V.sub (lv2 := [(0, _), (1, _)]) [0, 1] rfl ?_
  refine V.aload_n 0 dX7_take_0 rfl rfl ?_
  obtain ⟨r4, h6, hc5, hF⟩ := bd_s hF
  refine V.callVi mf_X7_sign ml_X7_30 sh_1 (s_X7_sign hc5) (by decide) rfl rfl (Nat.le_of_ble_eq_true rfl) dX7_take_1 ?_
  refine V.iload_n 1 dX7_take_4 rfl rfl ?_
  refine V.icmp_eq (tgt := 10) dX7_take_5 rfl (fun c => ?_) (fun c => ?_)
  · replace hF := ip c hF
    refine V.aload_n 0 dX7_take_10 rfl rfl ?_
    refine V.dup dX7_take_11 rfl ?_
    refine V.getI fl_X7_27 sh_1 rfl km_1 dX7_take_12 ?_
    refine V.iconst (v := 1) dX7_take_15 rfl ?_
    refine V.iadd dX7_take_16 ?_
    refine V.putI fl_X7_27 rfl (tyX7_ok 2 (by decide)) rfl rfl sh_1 rfl km_1 dX7_take_17 ?_
    refine V.iconst (v := 1) dX7_take_20 rfl ?_
    cases hF
    exact V.bret dX7_take_21
  · replace hF := iq c hF
    refine V.iconst (v := 0) dX7_take_8 rfl ?_
    cases hF
    exact V.bret dX7_take_9
/-! MonsterCot$LandingText.isRight -/
theorem dX2_isRight_0 : decode cX2_isRight 0 = .ok (.aload_n 0, 1) := by decide +kernel
theorem dX2_isRight_1 : decode cX2_isRight 1 = .ok (.getfield 18, 3) := by decide +kernel
theorem dX2_isRight_4 : decode cX2_isRight 4 = .ok (.iconst 0, 1) := by decide +kernel
theorem dX2_isRight_5 : decode cX2_isRight 5 = .ok (.putfield 22, 3) := by decide +kernel
theorem dX2_isRight_8 : decode cX2_isRight 8 = .ok (.aload_n 0, 1) := by decide +kernel
theorem dX2_isRight_9 : decode cX2_isRight 9 = .ok (.getfield 12, 3) := by decide +kernel
theorem dX2_isRight_12 : decode cX2_isRight 12 = .ok (.invokevirtual 28, 3) := by decide +kernel
theorem dX2_isRight_15 : decode cX2_isRight 15 = .ok (.iconst 0, 1) := by decide +kernel
theorem dX2_isRight_16 : decode cX2_isRight 16 = .ok (.istore_n 1, 1) := by decide +kernel
theorem dX2_isRight_17 : decode cX2_isRight 17 = .ok (.iload_n 1, 1) := by decide +kernel
theorem dX2_isRight_18 : decode cX2_isRight 18 = .ok (.sipush 240, 3) := by decide +kernel
theorem dX2_isRight_21 : decode cX2_isRight 21 = .ok (.if_icmp .ge 68, 3) := by decide +kernel
theorem dX2_isRight_24 : decode cX2_isRight 24 = .ok (.aload_n 0, 1) := by decide +kernel
theorem dX2_isRight_25 : decode cX2_isRight 25 = .ok (.invokevirtual 31, 3) := by decide +kernel
theorem dX2_isRight_28 : decode cX2_isRight 28 = .ok (.ifCond .ne 5, 3) := by decide +kernel
theorem dX2_isRight_31 : decode cX2_isRight 31 = .ok (.iconst 0, 1) := by decide +kernel
theorem dX2_isRight_32 : decode cX2_isRight 32 = .ok (.ireturn, 1) := by decide +kernel
theorem dX2_isRight_33 : decode cX2_isRight 33 = .ok (.aload_n 0, 1) := by decide +kernel
theorem dX2_isRight_34 : decode cX2_isRight 34 = .ok (.getfield 18, 3) := by decide +kernel
theorem dX2_isRight_37 : decode cX2_isRight 37 = .ok (.invokevirtual 35, 3) := by decide +kernel
theorem dX2_isRight_40 : decode cX2_isRight 40 = .ok (.ifCond .eq 29, 3) := by decide +kernel
theorem dX2_isRight_43 : decode cX2_isRight 43 = .ok (.aload_n 0, 1) := by decide +kernel
theorem dX2_isRight_44 : decode cX2_isRight 44 = .ok (.getfield 12, 3) := by decide +kernel
theorem dX2_isRight_47 : decode cX2_isRight 47 = .ok (.invokevirtual 38, 3) := by decide +kernel
theorem dX2_isRight_50 : decode cX2_isRight 50 = .ok (.ifCond .le 17, 3) := by decide +kernel
theorem dX2_isRight_53 : decode cX2_isRight 53 = .ok (.aload_n 0, 1) := by decide +kernel
theorem dX2_isRight_54 : decode cX2_isRight 54 = .ok (.getfield 12, 3) := by decide +kernel
theorem dX2_isRight_57 : decode cX2_isRight 57 = .ok (.invokevirtual 42, 3) := by decide +kernel
theorem dX2_isRight_60 : decode cX2_isRight 60 = .ok (.ifCond .le 7, 3) := by decide +kernel
theorem dX2_isRight_63 : decode cX2_isRight 63 = .ok (.iconst 1, 1) := by decide +kernel
theorem dX2_isRight_64 : decode cX2_isRight 64 = .ok (.goto 4, 3) := by decide +kernel
theorem dX2_isRight_67 : decode cX2_isRight 67 = .ok (.iconst 0, 1) := by decide +kernel
theorem dX2_isRight_68 : decode cX2_isRight 68 = .ok (.ireturn, 1) := by decide +kernel
theorem dX2_isRight_69 : decode cX2_isRight 69 = .ok (.aload_n 0, 1) := by decide +kernel
theorem dX2_isRight_70 : decode cX2_isRight 70 = .ok (.getfield 18, 3) := by decide +kernel
theorem dX2_isRight_73 : decode cX2_isRight 73 = .ok (.bipush 59, 2) := by decide +kernel
theorem dX2_isRight_75 : decode cX2_isRight 75 = .ok (.invokevirtual 45, 3) := by decide +kernel
theorem dX2_isRight_78 : decode cX2_isRight 78 = .ok (.ifCond .ne 5, 3) := by decide +kernel
theorem dX2_isRight_81 : decode cX2_isRight 81 = .ok (.iconst 0, 1) := by decide +kernel
theorem dX2_isRight_82 : decode cX2_isRight 82 = .ok (.ireturn, 1) := by decide +kernel
theorem dX2_isRight_83 : decode cX2_isRight 83 = .ok (.iinc 1 1, 3) := by decide +kernel
theorem dX2_isRight_86 : decode cX2_isRight 86 = .ok (.goto (-69), 3) := by decide +kernel
theorem dX2_isRight_89 : decode cX2_isRight 89 = .ok (.iconst 0, 1) := by decide +kernel
theorem dX2_isRight_90 : decode cX2_isRight 90 = .ok (.ireturn, 1) := by decide +kernel
def X2_isRight_17 (n : Nat) : Nat → Int32 → Mm → Option (Bool × Mm)
  | 0, _, _ => none
  | f + 1, x1, h => (if (240 : Int32) ≤ x1 then (some (false, h)) else (bd (X2_takeClause n h) (fun r33 h35 => (if r33 = true then (bd (X7_isAtEnd n h35) (fun r36 h38 => (if r36 = true then (bp (X1_books 4 h38) (fun r42 => (if r42 ≤ 0 then (some (false, h38)) else (bp (X1_houses 4 h38) (fun r44 => (if r44 ≤ 0 then (some (false, h38)) else (some (true, h38)))))))) else (bd (X7_take n (59 : Int32) h38) (fun r39 h41 => (if r39 = true then ((X2_isRight_17 n f) (x1 + (1)) h41) else (some (false, h41)))))))) else (some (false, h35))))))
set_option maxRecDepth 100000 in
set_option maxHeartbeats 4000000 in
theorem v_X2_isRight_17 {X : WX} {G : GX} {o : Mm} {n : Nat} {rv : Bool} {hz : Mm} : ∀ (f : Nat) (x1 : Int32) (h : Mm), X2_isRight_17 n f x1 h = some (rv, hz) → V X G RX2 cX2_isRight 2 (some .boolean) 6 0 0 (QR X G true o (some (.int (b2i rv))) hz) true o 17 [(0, .ref (xa X 3)), (1, .int x1)] [] h := by
  intro f
  induction f with
  | zero => intro x1 h hF; exact nomatch (show (none : Option (Bool × Mm)) = some (rv, hz) from hF)
  | succ f ih =>
    intro x1 h hF
    unfold X2_isRight_17 at hF
    refine V.iload_n 1 dX2_isRight_17 rfl rfl ?_
    refine V.sipush (v := 240) dX2_isRight_18 (by decide) ?_
    refine V.icmp_ge (tgt := 89) dX2_isRight_21 rfl (fun c => ?_) (fun c => ?_)
    · replace hF := ip c hF
      refine V.iconst (v := 0) dX2_isRight_89 rfl ?_
      cases hF
      exact V.bret dX2_isRight_90
    · replace hF := iq c hF
      refine V.aload_n 0 dX2_isRight_24 rfl rfl ?_
      obtain ⟨r33, h35, hc34, hF⟩ := bd_s hF
      refine V.callVi mf_X2_takeClause ml_X2_31 sh_3 (s_X2_takeClause hc34) (by decide) rfl rfl (Nat.le_of_ble_eq_true rfl) dX2_isRight_25 ?_
      refine V.ifz_ne (tgt := 33) dX2_isRight_28 rfl (fun c => ?_) (fun c => ?_)
      · replace hF := ip c hF
        refine V.aload_n 0 dX2_isRight_33 rfl rfl ?_
        refine V.getR (v := 1) fl_X2_18 sh_3 rfl fx_3_0 (by decide) dX2_isRight_34 ?_
        obtain ⟨r36, h38, hc37, hF⟩ := bd_s hF
        refine V.callVi mf_X7_isAtEnd ml_X2_35 sh_1 (s_X7_isAtEnd hc37) (by decide) rfl rfl (Nat.le_of_ble_eq_true rfl) dX2_isRight_37 ?_
        refine V.ifz_eq (tgt := 69) dX2_isRight_40 rfl (fun c => ?_) (fun c => ?_)
        · replace hF := iq c hF
          refine V.aload_n 0 dX2_isRight_69 rfl rfl ?_
          refine V.getR (v := 1) fl_X2_18 sh_3 rfl fx_3_0 (by decide) dX2_isRight_70 ?_
          refine V.bipush (v := 59) dX2_isRight_73 (by decide) ?_
          obtain ⟨r39, h41, hc40, hF⟩ := bd_s hF
          refine V.callVi mf_X7_take ml_X2_45 sh_1 (s_X7_take hc40) (by decide) rfl rfl (Nat.le_of_ble_eq_true rfl) dX2_isRight_75 ?_
          refine V.ifz_ne (tgt := 83) dX2_isRight_78 rfl (fun c => ?_) (fun c => ?_)
          · replace hF := ip c hF
            refine V.iinc (v := (x1 + (1))) 1 [(1, _), (0, _)] dX2_isRight_83 rfl rfl (by decide) rfl ?_
            refine V.goto (tgt := 17) dX2_isRight_86 rfl ?_
            exact V.sub [1, 0] rfl (ih _ _ hF)
          · replace hF := iq c hF
            refine V.iconst (v := 0) dX2_isRight_81 rfl ?_
            cases hF
            exact V.bret dX2_isRight_82
        · replace hF := ip c hF
          refine V.aload_n 0 dX2_isRight_43 rfl rfl ?_
          refine V.getR (v := 4) fl_X2_12 sh_3 rfl fx_3_1 (by decide) dX2_isRight_44 ?_
          obtain ⟨r42, hc43, hF⟩ := bp_s hF
          refine V.callVi mf_X1_books ml_X2_38 sh_4 (s_X1_books (Or.inl rfl) hc43) (by decide) rfl rfl (Nat.le_of_ble_eq_true rfl) dX2_isRight_47 ?_
          refine V.if_le (tgt := 67) dX2_isRight_50 rfl (fun c => ?_) (fun c => ?_)
          · replace hF := ip c hF
            refine V.iconst (v := 0) dX2_isRight_67 rfl ?_
            cases hF
            exact V.bret dX2_isRight_68
          · replace hF := iq c hF
            refine V.aload_n 0 dX2_isRight_53 rfl rfl ?_
            refine V.getR (v := 4) fl_X2_12 sh_3 rfl fx_3_1 (by decide) dX2_isRight_54 ?_
            obtain ⟨r44, hc45, hF⟩ := bp_s hF
            refine V.callVi mf_X1_houses ml_X2_42 sh_4 (s_X1_houses (Or.inl rfl) hc45) (by decide) rfl rfl (Nat.le_of_ble_eq_true rfl) dX2_isRight_57 ?_
            refine V.if_le (tgt := 67) dX2_isRight_60 rfl (fun c => ?_) (fun c => ?_)
            · replace hF := ip c hF
              refine V.iconst (v := 0) dX2_isRight_67 rfl ?_
              cases hF
              exact V.bret dX2_isRight_68
            · replace hF := iq c hF
              refine V.iconst (v := 1) dX2_isRight_63 rfl ?_
              refine V.goto (tgt := 68) dX2_isRight_64 rfl ?_
              cases hF
              exact V.bret dX2_isRight_68
      · replace hF := iq c hF
        refine V.iconst (v := 0) dX2_isRight_31 rfl ?_
        cases hF
        exact V.bret dX2_isRight_32
def X2_isRight (n : Nat) (h : Mm) : Option (Bool × Mm) := (bd (X1_clear n 4 (wI h 1 2 (0 : Int32))) (fun _ h48 => (X2_isRight_17 n n (0 : Int32) h48)))
set_option maxRecDepth 100000 in
set_option maxHeartbeats 4000000 in
theorem s_X2_isRight {X : WX} {o : Mm} {n : Nat} {rv : Bool} {hz : Mm} {h : Mm} (hF : X2_isRight n h = some (rv, hz)) : Sat X yX2_isRight cX2_isRight 2 (some .boolean) 6 [.ref (xa X 3)] true o h (some (.int (b2i rv))) hz := by
  unfold X2_isRight at hF
  refine Sat.mk (own := RX2) rfl (by decide +kernel) (Nat.le_of_ble_eq_true rfl) (fun G => ?_)
  refine V.sub (lv2 := [(0, _)]) [0] rfl ?_
  refine V.aload_n 0 dX2_isRight_0 rfl rfl ?_
  refine V.getR (v := 1) fl_X2_18 sh_3 rfl fx_3_0 (by decide) dX2_isRight_1 ?_
  refine V.iconst (v := 0) dX2_isRight_4 rfl ?_
  refine V.putI fl_X2_22 rfl (tyX7_ok 2 (by decide)) rfl rfl sh_1 rfl km_1 dX2_isRight_5 ?_
  refine V.aload_n 0 dX2_isRight_8 rfl rfl ?_
  refine V.getR (v := 4) fl_X2_12 sh_3 rfl fx_3_1 (by decide) dX2_isRight_9 ?_
  obtain ⟨r46, h48, hc47, hF⟩ := bd_s hF
  refine V.callVv mf_X1_clear ml_X2_28 sh_4 (s_X1_clear (Or.inl rfl) hc47) (by decide) rfl rfl (Nat.le_of_ble_eq_true rfl) dX2_isRight_12 ?_
  refine V.iconst (v := 0) dX2_isRight_15 rfl ?_
  refine V.istore_n [(1, _), (0, _)] dX2_isRight_16 rfl (by decide) rfl ?_
  exact V.sub [1, 0] rfl (v_X2_isRight_17 n _ _ hF)
/-! MonsterCot$Tape.takeOneOf -/
theorem dX7_takeOneOf_0 : decode cX7_takeOneOf 0 = .ok (.aload_n 1, 1) := by decide +kernel
theorem dX7_takeOneOf_1 : decode cX7_takeOneOf 1 = .ok (.aload_n 0, 1) := by decide +kernel
theorem dX7_takeOneOf_2 : decode cX7_takeOneOf 2 = .ok (.invokevirtual 30, 3) := by decide +kernel
theorem dX7_takeOneOf_5 : decode cX7_takeOneOf 5 = .ok (.invokevirtual 34, 3) := by decide +kernel
theorem dX7_takeOneOf_8 : decode cX7_takeOneOf 8 = .ok (.istore_n 2, 1) := by decide +kernel
theorem dX7_takeOneOf_9 : decode cX7_takeOneOf 9 = .ok (.iload_n 2, 1) := by decide +kernel
theorem dX7_takeOneOf_10 : decode cX7_takeOneOf 10 = .ok (.ifCond .lt 13, 3) := by decide +kernel
theorem dX7_takeOneOf_13 : decode cX7_takeOneOf 13 = .ok (.aload_n 0, 1) := by decide +kernel
theorem dX7_takeOneOf_14 : decode cX7_takeOneOf 14 = .ok (.dup, 1) := by decide +kernel
theorem dX7_takeOneOf_15 : decode cX7_takeOneOf 15 = .ok (.getfield 27, 3) := by decide +kernel
theorem dX7_takeOneOf_18 : decode cX7_takeOneOf 18 = .ok (.iconst 1, 1) := by decide +kernel
theorem dX7_takeOneOf_19 : decode cX7_takeOneOf 19 = .ok (.iadd, 1) := by decide +kernel
theorem dX7_takeOneOf_20 : decode cX7_takeOneOf 20 = .ok (.putfield 27, 3) := by decide +kernel
theorem dX7_takeOneOf_23 : decode cX7_takeOneOf 23 = .ok (.iload_n 2, 1) := by decide +kernel
theorem dX7_takeOneOf_24 : decode cX7_takeOneOf 24 = .ok (.ireturn, 1) := by decide +kernel
def X7_takeOneOf_23 (n : Nat) (a1 : Nat) (x2 : Int32) (h : Mm) : Option (Int32 × Mm) := (some (x2, h))
set_option maxRecDepth 100000 in
set_option maxHeartbeats 4000000 in
theorem v_X7_takeOneOf_23 {X : WX} {G : GX} {o : Mm} {n : Nat} {a1 : Nat} {rv : Int32} {hz : Mm} (ha1 : isS a1) {x2 : Int32} {h : Mm} (hF : X7_takeOneOf_23 n a1 x2 h = some (rv, hz)) : V X G RX7 cX7_takeOneOf 3 (some .int) 5 0 0 (QR X G true o (some (.int rv)) hz) true o 23 [(2, .int x2)] [] h := by
  unfold X7_takeOneOf_23 at hF
  refine V.iload_n 0 dX7_takeOneOf_23 rfl rfl ?_
  cases hF
  exact V.iret dX7_takeOneOf_24
def X7_takeOneOf (n : Nat) (a1 : Nat) (h : Mm) : Option (Int32 × Mm) := (bd (X7_sign n h) (fun r11 h13 => (bp (J0_indexOf_0f7a4 n a1 r11 h13) (fun r14 => (if r14 < 0 then (X7_takeOneOf_23 n a1 r14 h13) else (X7_takeOneOf_23 n a1 r14 (wI h13 1 2 ((h13.1 1 2) + (1 : Int32)))))))))
set_option maxRecDepth 100000 in
set_option maxHeartbeats 4000000 in
theorem s_X7_takeOneOf {X : WX} {o : Mm} {n : Nat} {a1 : Nat} {rv : Int32} {hz : Mm} {h : Mm} (ha1 : isS a1) (hF : X7_takeOneOf n a1 h = some (rv, hz)) : Sat X yX7_takeOneOf cX7_takeOneOf 3 (some .int) 5 [.ref (xa X 1), .ref (xa X a1)] true o h (some (.int rv)) hz := by
  unfold X7_takeOneOf at hF
  refine Sat.mk (own := RX7) rfl (by decide +kernel) (Nat.le_of_ble_eq_true rfl) (fun G => ?_)
  refine V.sub (lv2 := [(0, _), (1, _)]) [0, 1] rfl ?_
  refine V.aload_n 1 dX7_takeOneOf_0 rfl rfl ?_
  refine V.aload_n 0 dX7_takeOneOf_1 rfl rfl ?_
  obtain ⟨r11, h13, hc12, hF⟩ := bd_s hF
  refine V.callVi mf_X7_sign ml_X7_30 sh_1 (s_X7_sign hc12) (by decide) rfl rfl (Nat.le_of_ble_eq_true rfl) dX7_takeOneOf_2 ?_
  obtain ⟨r14, hc15, hF⟩ := bp_s hF
  refine V.callTi mf_J0_indexOf_0f7a4 ml_X7_34 ha1 (s_J0_indexOf_0f7a4 ha1 hc15) (by decide) rfl rfl (Nat.le_of_ble_eq_true rfl) dX7_takeOneOf_5 ?_
  refine V.istore_n [(2, _), (0, _), (1, _)] dX7_takeOneOf_8 rfl (by decide) rfl ?_
  refine V.iload_n 0 dX7_takeOneOf_9 rfl rfl ?_
  refine V.if_lt (tgt := 23) dX7_takeOneOf_10 rfl (fun c => ?_) (fun c => ?_)
  · replace hF := ip c hF
    exact V.sub [0] rfl (v_X7_takeOneOf_23 ha1 hF)
  · replace hF := iq c hF
    refine V.aload_n 1 dX7_takeOneOf_13 rfl rfl ?_
    refine V.dup dX7_takeOneOf_14 rfl ?_
    refine V.getI fl_X7_27 sh_1 rfl km_1 dX7_takeOneOf_15 ?_
    refine V.iconst (v := 1) dX7_takeOneOf_18 rfl ?_
    refine V.iadd dX7_takeOneOf_19 ?_
    refine V.putI fl_X7_27 rfl (tyX7_ok 2 (by decide)) rfl rfl sh_1 rfl km_1 dX7_takeOneOf_20 ?_
    exact V.sub [0] rfl (v_X7_takeOneOf_23 ha1 hF)
/-! MonsterCot$LawText.order -/
theorem dX3_order_0 : decode cX3_order 0 = .ok (.aload_n 0, 1) := by decide +kernel
theorem dX3_order_1 : decode cX3_order 1 = .ok (.getfield 11, 3) := by decide +kernel
theorem dX3_order_4 : decode cX3_order 4 = .ok (.aload_n 0, 1) := by decide +kernel
theorem dX3_order_5 : decode cX3_order 5 = .ok (.getfield 27, 3) := by decide +kernel
theorem dX3_order_8 : decode cX3_order 8 = .ok (.iload_n 1, 1) := by decide +kernel
theorem dX3_order_9 : decode cX3_order 9 = .ok (.invokestatic 67, 3) := by decide +kernel
theorem dX3_order_12 : decode cX3_order 12 = .ok (.aload_n 0, 1) := by decide +kernel
theorem dX3_order_13 : decode cX3_order 13 = .ok (.dup, 1) := by decide +kernel
theorem dX3_order_14 : decode cX3_order 14 = .ok (.getfield 27, 3) := by decide +kernel
theorem dX3_order_17 : decode cX3_order 17 = .ok (.iconst 1, 1) := by decide +kernel
theorem dX3_order_18 : decode cX3_order 18 = .ok (.iadd, 1) := by decide +kernel
theorem dX3_order_19 : decode cX3_order 19 = .ok (.putfield 27, 3) := by decide +kernel
theorem dX3_order_22 : decode cX3_order 22 = .ok (.return_, 1) := by decide +kernel
def X3_order (x1 : Int32) (h : Mm) : Option (Unit × Mm) := (bd (X11_put 8 (h.1 7 2) x1 h) (fun _ h6 => (some ((), (wI h6 7 2 ((h6.1 7 2) + (1 : Int32)))))))
set_option maxRecDepth 100000 in
set_option maxHeartbeats 4000000 in
theorem s_X3_order {X : WX} {o : Mm} {x1 : Int32} {rv : Unit} {hz : Mm} {h : Mm} (hF : X3_order x1 h = some (rv, hz)) : Sat X yX3_order cX3_order 2 (none) 2 [.ref (xa X 7), .int x1] true o h none hz := by
  unfold X3_order at hF
  refine Sat.mk (own := RX3) rfl (by decide +kernel) (Nat.le_of_ble_eq_true rfl) (fun G => ?_)
  refine V.sub (lv2 := [(0, _), (1, _)]) [0, 1] rfl ?_
  refine V.aload_n 0 dX3_order_0 rfl rfl ?_
  refine V.getR (v := 8) fl_X3_11 sh_7 rfl fx_7_1 (by decide) dX3_order_1 ?_
  refine V.aload_n 0 dX3_order_4 rfl rfl ?_
  refine V.getI fl_X3_27 sh_7 rfl km_7 dX3_order_5 ?_
  refine V.iload_n 1 dX3_order_8 rfl rfl ?_
  obtain ⟨r4, h6, hc5, hF⟩ := bd_s hF
  refine V.callNv mf_X11_put ml_X3_67 (s_X11_put io_8 hc5) (by decide) rfl rfl (Nat.le_of_ble_eq_true rfl) dX3_order_9 ?_
  refine V.aload_n 0 dX3_order_12 rfl rfl ?_
  refine V.dup dX3_order_13 rfl ?_
  refine V.getI fl_X3_27 sh_7 rfl km_7 dX3_order_14 ?_
  refine V.iconst (v := 1) dX3_order_17 rfl ?_
  refine V.iadd dX3_order_18 ?_
  refine V.putI fl_X3_27 rfl (tyX3_ok 2 (by decide)) rfl rfl sh_7 rfl km_7 dX3_order_19 ?_
  cases hF
  exact V.vret dX3_order_22
/-! MonsterCot$LawText.takeTerm -/
theorem dX3_takeTerm_0 : decode cX3_takeTerm 0 = .ok (.aload_n 0, 1) := by decide +kernel
theorem dX3_takeTerm_1 : decode cX3_takeTerm 1 = .ok (.iload_n 1, 1) := by decide +kernel
theorem dX3_takeTerm_2 : decode cX3_takeTerm 2 = .ok (.invokevirtual 90, 3) := by decide +kernel
theorem dX3_takeTerm_5 : decode cX3_takeTerm 5 = .ok (.ifCond .ne 5, 3) := by decide +kernel
theorem dX3_takeTerm_8 : decode cX3_takeTerm 8 = .ok (.iconst 0, 1) := by decide +kernel
theorem dX3_takeTerm_9 : decode cX3_takeTerm 9 = .ok (.ireturn, 1) := by decide +kernel
theorem dX3_takeTerm_10 : decode cX3_takeTerm 10 = .ok (.iconst 0, 1) := by decide +kernel
theorem dX3_takeTerm_11 : decode cX3_takeTerm 11 = .ok (.istore_n 2, 1) := by decide +kernel
theorem dX3_takeTerm_12 : decode cX3_takeTerm 12 = .ok (.iload_n 2, 1) := by decide +kernel
theorem dX3_takeTerm_13 : decode cX3_takeTerm 13 = .ok (.sipush 240, 3) := by decide +kernel
theorem dX3_takeTerm_16 : decode cX3_takeTerm 16 = .ok (.if_icmp .ge 50, 3) := by decide +kernel
theorem dX3_takeTerm_19 : decode cX3_takeTerm 19 = .ok (.aload_n 0, 1) := by decide +kernel
theorem dX3_takeTerm_20 : decode cX3_takeTerm 20 = .ok (.getfield 17, 3) := by decide +kernel
theorem dX3_takeTerm_23 : decode cX3_takeTerm 23 = .ok (.ldc 93, 2) := by decide +kernel
theorem dX3_takeTerm_25 : decode cX3_takeTerm 25 = .ok (.invokevirtual 81, 3) := by decide +kernel
theorem dX3_takeTerm_28 : decode cX3_takeTerm 28 = .ok (.istore_n 3, 1) := by decide +kernel
theorem dX3_takeTerm_29 : decode cX3_takeTerm 29 = .ok (.iload_n 3, 1) := by decide +kernel
theorem dX3_takeTerm_30 : decode cX3_takeTerm 30 = .ok (.ifCond .ge 5, 3) := by decide +kernel
theorem dX3_takeTerm_33 : decode cX3_takeTerm 33 = .ok (.iconst 1, 1) := by decide +kernel
theorem dX3_takeTerm_34 : decode cX3_takeTerm 34 = .ok (.ireturn, 1) := by decide +kernel
theorem dX3_takeTerm_35 : decode cX3_takeTerm 35 = .ok (.aload_n 0, 1) := by decide +kernel
theorem dX3_takeTerm_36 : decode cX3_takeTerm 36 = .ok (.iload_n 1, 1) := by decide +kernel
theorem dX3_takeTerm_37 : decode cX3_takeTerm 37 = .ok (.invokevirtual 90, 3) := by decide +kernel
theorem dX3_takeTerm_40 : decode cX3_takeTerm 40 = .ok (.ifCond .ne 5, 3) := by decide +kernel
theorem dX3_takeTerm_43 : decode cX3_takeTerm 43 = .ok (.iconst 0, 1) := by decide +kernel
theorem dX3_takeTerm_44 : decode cX3_takeTerm 44 = .ok (.ireturn, 1) := by decide +kernel
theorem dX3_takeTerm_45 : decode cX3_takeTerm 45 = .ok (.aload_n 0, 1) := by decide +kernel
theorem dX3_takeTerm_46 : decode cX3_takeTerm 46 = .ok (.iload_n 3, 1) := by decide +kernel
theorem dX3_takeTerm_47 : decode cX3_takeTerm 47 = .ok (.ifCond .ne 8, 3) := by decide +kernel
theorem dX3_takeTerm_50 : decode cX3_takeTerm 50 = .ok (.bipush (-9), 2) := by decide +kernel
theorem dX3_takeTerm_52 : decode cX3_takeTerm 52 = .ok (.goto 5, 3) := by decide +kernel
theorem dX3_takeTerm_55 : decode cX3_takeTerm 55 = .ok (.bipush (-10), 2) := by decide +kernel
theorem dX3_takeTerm_57 : decode cX3_takeTerm 57 = .ok (.invokevirtual 59, 3) := by decide +kernel
theorem dX3_takeTerm_60 : decode cX3_takeTerm 60 = .ok (.iinc 2 1, 3) := by decide +kernel
theorem dX3_takeTerm_63 : decode cX3_takeTerm 63 = .ok (.goto (-51), 3) := by decide +kernel
theorem dX3_takeTerm_66 : decode cX3_takeTerm 66 = .ok (.iconst 0, 1) := by decide +kernel
theorem dX3_takeTerm_67 : decode cX3_takeTerm 67 = .ok (.ireturn, 1) := by decide +kernel
def X3_takeTerm_57 (n : Nat) (rf : Int32 → Mm → Option (Bool × Mm)) (K12 : Int32 → Int32 → Mm → Option (Bool × Mm)) (x1 : Int32) (x2 : Int32) (s1 : Int32) (h : Mm) : Option (Bool × Mm) := (bd (X3_order s1 h) (fun _ h48 => (K12 x1 (x2 + (1)) h48)))
set_option maxRecDepth 100000 in
set_option maxHeartbeats 4000000 in
theorem v_X3_takeTerm_57 {X : WX} {G : GX} {o : Mm} {n : Nat} {rf : Int32 → Mm → Option (Bool × Mm)} {dr : Nat} (hdr : 7 ≤ dr) (hrf : ∀ (x1 : Int32)  (h : Mm) (r : Bool) (h2 : Mm), rf x1 h = some (r, h2) → Sat X yX3_takeAtom cX3_takeAtom 4 (some .boolean) dr [.ref (xa X 7), .int x1] true o h (some (.int (b2i r))) h2) {K12 : Int32 → Int32 → Mm → Option (Bool × Mm)} {rv : Bool} {hz : Mm} (hK12 : ∀ (x1 : Int32) (x2 : Int32) (h : Mm), K12 x1 x2 h = some (rv, hz) → V X G RX3 cX3_takeTerm 4 (some .boolean) (dr + 1) 0 0 (QR X G true o (some (.int (b2i rv))) hz) true o 12 [(0, .ref (xa X 7)), (1, .int x1), (2, .int x2)] [] h) {x1 : Int32} {x2 : Int32} {s1 : Int32} {h : Mm} (hF : X3_takeTerm_57 n rf K12 x1 x2 s1 h = some (rv, hz)) : V X G RX3 cX3_takeTerm 4 (some .boolean) (dr + 1) 0 0 (QR X G true o (some (.int (b2i rv))) hz) true o 57 [(0, .ref (xa X 7)), (1, .int x1), (2, .int x2)] [.int s1, .ref (xa X 7)] h := by
  unfold X3_takeTerm_57 at hF
  obtain ⟨r46, h48, hc47, hF⟩ := bd_s hF
  refine V.callVv mf_X3_order ml_X3_59 sh_7 (s_X3_order hc47) (by omega) rfl rfl (Nat.le_of_ble_eq_true rfl) dX3_takeTerm_57 ?_
  refine V.iinc (v := (x2 + (1))) 2 [(2, _), (0, _), (1, _)] dX3_takeTerm_60 rfl rfl (by decide) rfl ?_
  refine V.goto (tgt := 12) dX3_takeTerm_63 rfl ?_
  exact V.sub [1, 2, 0] rfl (hK12 _ _ _ hF)
def X3_takeTerm_12 (n : Nat) (rf : Int32 → Mm → Option (Bool × Mm)) : Nat → Int32 → Int32 → Mm → Option (Bool × Mm)
  | 0, _, _, _ => none
  | f + 1, x1, x2, h => (if (240 : Int32) ≤ x2 then (some (false, h)) else (bd (X7_takeOneOf n 1026 h) (fun r49 h51 => (if 0 ≤ r49 then (bd (rf x1 h51) (fun r52 h54 => (if r52 = true then (if r49 = 0 then (X3_takeTerm_57 n rf (X3_takeTerm_12 n rf f) x1 x2 (-9 : Int32) h54) else (X3_takeTerm_57 n rf (X3_takeTerm_12 n rf f) x1 x2 (-10 : Int32) h54)) else (some (false, h54))))) else (some (true, h51))))))
set_option maxRecDepth 100000 in
set_option maxHeartbeats 4000000 in
theorem v_X3_takeTerm_12 {X : WX} {G : GX} {o : Mm} {n : Nat} {rf : Int32 → Mm → Option (Bool × Mm)} {dr : Nat} (hdr : 7 ≤ dr) (hrf : ∀ (x1 : Int32)  (h : Mm) (r : Bool) (h2 : Mm), rf x1 h = some (r, h2) → Sat X yX3_takeAtom cX3_takeAtom 4 (some .boolean) dr [.ref (xa X 7), .int x1] true o h (some (.int (b2i r))) h2) {rv : Bool} {hz : Mm} : ∀ (f : Nat) (x1 : Int32) (x2 : Int32) (h : Mm), X3_takeTerm_12 n rf f x1 x2 h = some (rv, hz) → V X G RX3 cX3_takeTerm 4 (some .boolean) (dr + 1) 0 0 (QR X G true o (some (.int (b2i rv))) hz) true o 12 [(0, .ref (xa X 7)), (1, .int x1), (2, .int x2)] [] h := by
  intro f
  induction f with
  | zero => intro x1 x2 h hF; exact nomatch (show (none : Option (Bool × Mm)) = some (rv, hz) from hF)
  | succ f ih =>
    intro x1 x2 h hF
    unfold X3_takeTerm_12 at hF
    refine V.iload_n 2 dX3_takeTerm_12 rfl rfl ?_
    refine V.sipush (v := 240) dX3_takeTerm_13 (by decide) ?_
    refine V.icmp_ge (tgt := 66) dX3_takeTerm_16 rfl (fun c => ?_) (fun c => ?_)
    · replace hF := ip c hF
      refine V.iconst (v := 0) dX3_takeTerm_66 rfl ?_
      cases hF
      exact V.bret dX3_takeTerm_67
    · replace hF := iq c hF
      refine V.aload_n 0 dX3_takeTerm_19 rfl rfl ?_
      refine V.getR (v := 1) fl_X3_17 sh_7 rfl fx_7_0 (by decide) dX3_takeTerm_20 ?_
      refine V.ldcS sc_1026 rfl rfl dX3_takeTerm_23 ?_
      obtain ⟨r49, h51, hc50, hF⟩ := bd_s hF
      refine V.callVi mf_X7_takeOneOf ml_X3_81 sh_1 (s_X7_takeOneOf ⟨by decide, by decide⟩ hc50) (by omega) rfl rfl (Nat.le_of_ble_eq_true rfl) dX3_takeTerm_25 ?_
      refine V.istore_n [(3, _), (0, _), (1, _), (2, _)] dX3_takeTerm_28 rfl (by decide) rfl ?_
      refine V.iload_n 0 dX3_takeTerm_29 rfl rfl ?_
      refine V.if_ge (tgt := 35) dX3_takeTerm_30 rfl (fun c => ?_) (fun c => ?_)
      · replace hF := ip c hF
        refine V.aload_n 1 dX3_takeTerm_35 rfl rfl ?_
        refine V.iload_n 2 dX3_takeTerm_36 rfl rfl ?_
        obtain ⟨r52, h54, hc53, hF⟩ := bd_s hF
        refine V.callVi mf_X3_takeAtom ml_X3_90 sh_7 (hrf _ _ _ _ hc53) (by omega) rfl rfl (Nat.le_of_ble_eq_true rfl) dX3_takeTerm_37 ?_
        refine V.ifz_ne (tgt := 45) dX3_takeTerm_40 rfl (fun c => ?_) (fun c => ?_)
        · replace hF := ip c hF
          refine V.aload_n 1 dX3_takeTerm_45 rfl rfl ?_
          refine V.iload_n 0 dX3_takeTerm_46 rfl rfl ?_
          refine V.if_ne (tgt := 55) dX3_takeTerm_47 rfl (fun c => ?_) (fun c => ?_)
          · replace hF := iq c hF
            refine V.bipush (v := -10) dX3_takeTerm_55 (by decide) ?_
            exact V.sub [1, 2, 3] rfl (v_X3_takeTerm_57 hdr hrf ih hF)
          · replace hF := ip c hF
            refine V.bipush (v := -9) dX3_takeTerm_50 (by decide) ?_
            refine V.goto (tgt := 57) dX3_takeTerm_52 rfl ?_
            exact V.sub [1, 2, 3] rfl (v_X3_takeTerm_57 hdr hrf ih hF)
        · replace hF := iq c hF
          refine V.iconst (v := 0) dX3_takeTerm_43 rfl ?_
          cases hF
          exact V.bret dX3_takeTerm_44
      · replace hF := iq c hF
        refine V.iconst (v := 1) dX3_takeTerm_33 rfl ?_
        cases hF
        exact V.bret dX3_takeTerm_34
def X3_takeTerm (n : Nat) (rf : Int32 → Mm → Option (Bool × Mm)) (x1 : Int32) (h : Mm) : Option (Bool × Mm) := (bd (rf x1 h) (fun r55 h57 => (if r55 = true then (X3_takeTerm_12 n rf n x1 (0 : Int32) h57) else (some (false, h57)))))
set_option maxRecDepth 100000 in
set_option maxHeartbeats 4000000 in
theorem s_X3_takeTerm {X : WX} {o : Mm} {n : Nat} {rf : Int32 → Mm → Option (Bool × Mm)} {dr : Nat} (hdr : 7 ≤ dr) (hrf : ∀ (x1 : Int32)  (h : Mm) (r : Bool) (h2 : Mm), rf x1 h = some (r, h2) → Sat X yX3_takeAtom cX3_takeAtom 4 (some .boolean) dr [.ref (xa X 7), .int x1] true o h (some (.int (b2i r))) h2) {x1 : Int32} {rv : Bool} {hz : Mm} {h : Mm} (hF : X3_takeTerm n rf x1 h = some (rv, hz)) : Sat X yX3_takeTerm cX3_takeTerm 4 (some .boolean) (dr + 1) [.ref (xa X 7), .int x1] true o h (some (.int (b2i rv))) hz := by
  unfold X3_takeTerm at hF
  refine Sat.mk (own := RX3) rfl (by decide +kernel) (Nat.le_of_ble_eq_true rfl) (fun G => ?_)
  refine V.sub (lv2 := [(0, _), (1, _)]) [0, 1] rfl ?_
  refine V.aload_n 0 dX3_takeTerm_0 rfl rfl ?_
  refine V.iload_n 1 dX3_takeTerm_1 rfl rfl ?_
  obtain ⟨r55, h57, hc56, hF⟩ := bd_s hF
  refine V.callVi mf_X3_takeAtom ml_X3_90 sh_7 (hrf _ _ _ _ hc56) (by omega) rfl rfl (Nat.le_of_ble_eq_true rfl) dX3_takeTerm_2 ?_
  refine V.ifz_ne (tgt := 10) dX3_takeTerm_5 rfl (fun c => ?_) (fun c => ?_)
  · replace hF := ip c hF
    refine V.iconst (v := 0) dX3_takeTerm_10 rfl ?_
    refine V.istore_n [(2, _), (0, _), (1, _)] dX3_takeTerm_11 rfl (by decide) rfl ?_
    exact V.sub [1, 2, 0] rfl (v_X3_takeTerm_12 hdr hrf n _ _ _ hF)
  · replace hF := iq c hF
    refine V.iconst (v := 0) dX3_takeTerm_8 rfl ?_
    cases hF
    exact V.bret dX3_takeTerm_9
/-! MonsterCot$LawText.takeSum -/
theorem dX3_takeSum_0 : decode cX3_takeSum 0 = .ok (.aload_n 0, 1) := by decide +kernel
theorem dX3_takeSum_1 : decode cX3_takeSum 1 = .ok (.iload_n 1, 1) := by decide +kernel
theorem dX3_takeSum_2 : decode cX3_takeSum 2 = .ok (.invokevirtual 85, 3) := by decide +kernel
theorem dX3_takeSum_5 : decode cX3_takeSum 5 = .ok (.ifCond .ne 5, 3) := by decide +kernel
theorem dX3_takeSum_8 : decode cX3_takeSum 8 = .ok (.iconst 0, 1) := by decide +kernel
theorem dX3_takeSum_9 : decode cX3_takeSum 9 = .ok (.ireturn, 1) := by decide +kernel
theorem dX3_takeSum_10 : decode cX3_takeSum 10 = .ok (.iconst 0, 1) := by decide +kernel
theorem dX3_takeSum_11 : decode cX3_takeSum 11 = .ok (.istore_n 2, 1) := by decide +kernel
theorem dX3_takeSum_12 : decode cX3_takeSum 12 = .ok (.iload_n 2, 1) := by decide +kernel
theorem dX3_takeSum_13 : decode cX3_takeSum 13 = .ok (.sipush 240, 3) := by decide +kernel
theorem dX3_takeSum_16 : decode cX3_takeSum 16 = .ok (.if_icmp .ge 50, 3) := by decide +kernel
theorem dX3_takeSum_19 : decode cX3_takeSum 19 = .ok (.aload_n 0, 1) := by decide +kernel
theorem dX3_takeSum_20 : decode cX3_takeSum 20 = .ok (.getfield 17, 3) := by decide +kernel
theorem dX3_takeSum_23 : decode cX3_takeSum 23 = .ok (.ldc 88, 2) := by decide +kernel
theorem dX3_takeSum_25 : decode cX3_takeSum 25 = .ok (.invokevirtual 81, 3) := by decide +kernel
theorem dX3_takeSum_28 : decode cX3_takeSum 28 = .ok (.istore_n 3, 1) := by decide +kernel
theorem dX3_takeSum_29 : decode cX3_takeSum 29 = .ok (.iload_n 3, 1) := by decide +kernel
theorem dX3_takeSum_30 : decode cX3_takeSum 30 = .ok (.ifCond .ge 5, 3) := by decide +kernel
theorem dX3_takeSum_33 : decode cX3_takeSum 33 = .ok (.iconst 1, 1) := by decide +kernel
theorem dX3_takeSum_34 : decode cX3_takeSum 34 = .ok (.ireturn, 1) := by decide +kernel
theorem dX3_takeSum_35 : decode cX3_takeSum 35 = .ok (.aload_n 0, 1) := by decide +kernel
theorem dX3_takeSum_36 : decode cX3_takeSum 36 = .ok (.iload_n 1, 1) := by decide +kernel
theorem dX3_takeSum_37 : decode cX3_takeSum 37 = .ok (.invokevirtual 85, 3) := by decide +kernel
theorem dX3_takeSum_40 : decode cX3_takeSum 40 = .ok (.ifCond .ne 5, 3) := by decide +kernel
theorem dX3_takeSum_43 : decode cX3_takeSum 43 = .ok (.iconst 0, 1) := by decide +kernel
theorem dX3_takeSum_44 : decode cX3_takeSum 44 = .ok (.ireturn, 1) := by decide +kernel
theorem dX3_takeSum_45 : decode cX3_takeSum 45 = .ok (.aload_n 0, 1) := by decide +kernel
theorem dX3_takeSum_46 : decode cX3_takeSum 46 = .ok (.iload_n 3, 1) := by decide +kernel
theorem dX3_takeSum_47 : decode cX3_takeSum 47 = .ok (.ifCond .ne 8, 3) := by decide +kernel
theorem dX3_takeSum_50 : decode cX3_takeSum 50 = .ok (.bipush (-7), 2) := by decide +kernel
theorem dX3_takeSum_52 : decode cX3_takeSum 52 = .ok (.goto 5, 3) := by decide +kernel
theorem dX3_takeSum_55 : decode cX3_takeSum 55 = .ok (.bipush (-8), 2) := by decide +kernel
theorem dX3_takeSum_57 : decode cX3_takeSum 57 = .ok (.invokevirtual 59, 3) := by decide +kernel
theorem dX3_takeSum_60 : decode cX3_takeSum 60 = .ok (.iinc 2 1, 3) := by decide +kernel
theorem dX3_takeSum_63 : decode cX3_takeSum 63 = .ok (.goto (-51), 3) := by decide +kernel
theorem dX3_takeSum_66 : decode cX3_takeSum 66 = .ok (.iconst 0, 1) := by decide +kernel
theorem dX3_takeSum_67 : decode cX3_takeSum 67 = .ok (.ireturn, 1) := by decide +kernel
def X3_takeSum_57 (n : Nat) (rf : Int32 → Mm → Option (Bool × Mm)) (K12 : Int32 → Int32 → Mm → Option (Bool × Mm)) (x1 : Int32) (x2 : Int32) (s1 : Int32) (h : Mm) : Option (Bool × Mm) := (bd (X3_order s1 h) (fun _ h48 => (K12 x1 (x2 + (1)) h48)))
set_option maxRecDepth 100000 in
set_option maxHeartbeats 4000000 in
theorem v_X3_takeSum_57 {X : WX} {G : GX} {o : Mm} {n : Nat} {rf : Int32 → Mm → Option (Bool × Mm)} {dr : Nat} (hdr : 7 ≤ dr) (hrf : ∀ (x1 : Int32)  (h : Mm) (r : Bool) (h2 : Mm), rf x1 h = some (r, h2) → Sat X yX3_takeAtom cX3_takeAtom 4 (some .boolean) dr [.ref (xa X 7), .int x1] true o h (some (.int (b2i r))) h2) {K12 : Int32 → Int32 → Mm → Option (Bool × Mm)} {rv : Bool} {hz : Mm} (hK12 : ∀ (x1 : Int32) (x2 : Int32) (h : Mm), K12 x1 x2 h = some (rv, hz) → V X G RX3 cX3_takeSum 4 (some .boolean) (dr + 2) 0 0 (QR X G true o (some (.int (b2i rv))) hz) true o 12 [(0, .ref (xa X 7)), (1, .int x1), (2, .int x2)] [] h) {x1 : Int32} {x2 : Int32} {s1 : Int32} {h : Mm} (hF : X3_takeSum_57 n rf K12 x1 x2 s1 h = some (rv, hz)) : V X G RX3 cX3_takeSum 4 (some .boolean) (dr + 2) 0 0 (QR X G true o (some (.int (b2i rv))) hz) true o 57 [(0, .ref (xa X 7)), (1, .int x1), (2, .int x2)] [.int s1, .ref (xa X 7)] h := by
  unfold X3_takeSum_57 at hF
  obtain ⟨r46, h48, hc47, hF⟩ := bd_s hF
  refine V.callVv mf_X3_order ml_X3_59 sh_7 (s_X3_order hc47) (by omega) rfl rfl (Nat.le_of_ble_eq_true rfl) dX3_takeSum_57 ?_
  refine V.iinc (v := (x2 + (1))) 2 [(2, _), (0, _), (1, _)] dX3_takeSum_60 rfl rfl (by decide) rfl ?_
  refine V.goto (tgt := 12) dX3_takeSum_63 rfl ?_
  exact V.sub [1, 2, 0] rfl (hK12 _ _ _ hF)
def X3_takeSum_12 (n : Nat) (rf : Int32 → Mm → Option (Bool × Mm)) : Nat → Int32 → Int32 → Mm → Option (Bool × Mm)
  | 0, _, _, _ => none
  | f + 1, x1, x2, h => (if (240 : Int32) ≤ x2 then (some (false, h)) else (bd (X7_takeOneOf n 1027 h) (fun r49 h51 => (if 0 ≤ r49 then (bd (X3_takeTerm n rf x1 h51) (fun r52 h54 => (if r52 = true then (if r49 = 0 then (X3_takeSum_57 n rf (X3_takeSum_12 n rf f) x1 x2 (-7 : Int32) h54) else (X3_takeSum_57 n rf (X3_takeSum_12 n rf f) x1 x2 (-8 : Int32) h54)) else (some (false, h54))))) else (some (true, h51))))))
set_option maxRecDepth 100000 in
set_option maxHeartbeats 4000000 in
theorem v_X3_takeSum_12 {X : WX} {G : GX} {o : Mm} {n : Nat} {rf : Int32 → Mm → Option (Bool × Mm)} {dr : Nat} (hdr : 7 ≤ dr) (hrf : ∀ (x1 : Int32)  (h : Mm) (r : Bool) (h2 : Mm), rf x1 h = some (r, h2) → Sat X yX3_takeAtom cX3_takeAtom 4 (some .boolean) dr [.ref (xa X 7), .int x1] true o h (some (.int (b2i r))) h2) {rv : Bool} {hz : Mm} : ∀ (f : Nat) (x1 : Int32) (x2 : Int32) (h : Mm), X3_takeSum_12 n rf f x1 x2 h = some (rv, hz) → V X G RX3 cX3_takeSum 4 (some .boolean) (dr + 2) 0 0 (QR X G true o (some (.int (b2i rv))) hz) true o 12 [(0, .ref (xa X 7)), (1, .int x1), (2, .int x2)] [] h := by
  intro f
  induction f with
  | zero => intro x1 x2 h hF; exact nomatch (show (none : Option (Bool × Mm)) = some (rv, hz) from hF)
  | succ f ih =>
    intro x1 x2 h hF
    unfold X3_takeSum_12 at hF
    refine V.iload_n 2 dX3_takeSum_12 rfl rfl ?_
    refine V.sipush (v := 240) dX3_takeSum_13 (by decide) ?_
    refine V.icmp_ge (tgt := 66) dX3_takeSum_16 rfl (fun c => ?_) (fun c => ?_)
    · replace hF := ip c hF
      refine V.iconst (v := 0) dX3_takeSum_66 rfl ?_
      cases hF
      exact V.bret dX3_takeSum_67
    · replace hF := iq c hF
      refine V.aload_n 0 dX3_takeSum_19 rfl rfl ?_
      refine V.getR (v := 1) fl_X3_17 sh_7 rfl fx_7_0 (by decide) dX3_takeSum_20 ?_
      refine V.ldcS sc_1027 rfl rfl dX3_takeSum_23 ?_
      obtain ⟨r49, h51, hc50, hF⟩ := bd_s hF
      refine V.callVi mf_X7_takeOneOf ml_X3_81 sh_1 (s_X7_takeOneOf ⟨by decide, by decide⟩ hc50) (by omega) rfl rfl (Nat.le_of_ble_eq_true rfl) dX3_takeSum_25 ?_
      refine V.istore_n [(3, _), (0, _), (1, _), (2, _)] dX3_takeSum_28 rfl (by decide) rfl ?_
      refine V.iload_n 0 dX3_takeSum_29 rfl rfl ?_
      refine V.if_ge (tgt := 35) dX3_takeSum_30 rfl (fun c => ?_) (fun c => ?_)
      · replace hF := ip c hF
        refine V.aload_n 1 dX3_takeSum_35 rfl rfl ?_
        refine V.iload_n 2 dX3_takeSum_36 rfl rfl ?_
        obtain ⟨r52, h54, hc53, hF⟩ := bd_s hF
        refine V.callVi mf_X3_takeTerm ml_X3_85 sh_7 (s_X3_takeTerm hdr hrf hc53) (by omega) rfl rfl (Nat.le_of_ble_eq_true rfl) dX3_takeSum_37 ?_
        refine V.ifz_ne (tgt := 45) dX3_takeSum_40 rfl (fun c => ?_) (fun c => ?_)
        · replace hF := ip c hF
          refine V.aload_n 1 dX3_takeSum_45 rfl rfl ?_
          refine V.iload_n 0 dX3_takeSum_46 rfl rfl ?_
          refine V.if_ne (tgt := 55) dX3_takeSum_47 rfl (fun c => ?_) (fun c => ?_)
          · replace hF := iq c hF
            refine V.bipush (v := -8) dX3_takeSum_55 (by decide) ?_
            exact V.sub [1, 2, 3] rfl (v_X3_takeSum_57 hdr hrf ih hF)
          · replace hF := ip c hF
            refine V.bipush (v := -7) dX3_takeSum_50 (by decide) ?_
            refine V.goto (tgt := 57) dX3_takeSum_52 rfl ?_
            exact V.sub [1, 2, 3] rfl (v_X3_takeSum_57 hdr hrf ih hF)
        · replace hF := iq c hF
          refine V.iconst (v := 0) dX3_takeSum_43 rfl ?_
          cases hF
          exact V.bret dX3_takeSum_44
      · replace hF := iq c hF
        refine V.iconst (v := 1) dX3_takeSum_33 rfl ?_
        cases hF
        exact V.bret dX3_takeSum_34
def X3_takeSum (n : Nat) (rf : Int32 → Mm → Option (Bool × Mm)) (x1 : Int32) (h : Mm) : Option (Bool × Mm) := (bd (X3_takeTerm n rf x1 h) (fun r55 h57 => (if r55 = true then (X3_takeSum_12 n rf n x1 (0 : Int32) h57) else (some (false, h57)))))
set_option maxRecDepth 100000 in
set_option maxHeartbeats 4000000 in
theorem s_X3_takeSum {X : WX} {o : Mm} {n : Nat} {rf : Int32 → Mm → Option (Bool × Mm)} {dr : Nat} (hdr : 7 ≤ dr) (hrf : ∀ (x1 : Int32)  (h : Mm) (r : Bool) (h2 : Mm), rf x1 h = some (r, h2) → Sat X yX3_takeAtom cX3_takeAtom 4 (some .boolean) dr [.ref (xa X 7), .int x1] true o h (some (.int (b2i r))) h2) {x1 : Int32} {rv : Bool} {hz : Mm} {h : Mm} (hF : X3_takeSum n rf x1 h = some (rv, hz)) : Sat X yX3_takeSum cX3_takeSum 4 (some .boolean) (dr + 2) [.ref (xa X 7), .int x1] true o h (some (.int (b2i rv))) hz := by
  unfold X3_takeSum at hF
  refine Sat.mk (own := RX3) rfl (by decide +kernel) (Nat.le_of_ble_eq_true rfl) (fun G => ?_)
  refine V.sub (lv2 := [(0, _), (1, _)]) [0, 1] rfl ?_
  refine V.aload_n 0 dX3_takeSum_0 rfl rfl ?_
  refine V.iload_n 1 dX3_takeSum_1 rfl rfl ?_
  obtain ⟨r55, h57, hc56, hF⟩ := bd_s hF
  refine V.callVi mf_X3_takeTerm ml_X3_85 sh_7 (s_X3_takeTerm hdr hrf hc56) (by omega) rfl rfl (Nat.le_of_ble_eq_true rfl) dX3_takeSum_2 ?_
  refine V.ifz_ne (tgt := 10) dX3_takeSum_5 rfl (fun c => ?_) (fun c => ?_)
  · replace hF := ip c hF
    refine V.iconst (v := 0) dX3_takeSum_10 rfl ?_
    refine V.istore_n [(2, _), (0, _), (1, _)] dX3_takeSum_11 rfl (by decide) rfl ?_
    exact V.sub [1, 2, 0] rfl (v_X3_takeSum_12 hdr hrf n _ _ _ hF)
  · replace hF := iq c hF
    refine V.iconst (v := 0) dX3_takeSum_8 rfl ?_
    cases hF
    exact V.bret dX3_takeSum_9
/-! MonsterCot$LawText.takeAtom -/
theorem dX3_takeAtom_0 : decode cX3_takeAtom 0 = .ok (.aload_n 0, 1) := by decide +kernel
theorem dX3_takeAtom_1 : decode cX3_takeAtom 1 = .ok (.getfield 17, 3) := by decide +kernel
theorem dX3_takeAtom_4 : decode cX3_takeAtom 4 = .ok (.invokevirtual 43, 3) := by decide +kernel
theorem dX3_takeAtom_7 : decode cX3_takeAtom 7 = .ok (.bipush 91, 2) := by decide +kernel
theorem dX3_takeAtom_9 : decode cX3_takeAtom 9 = .ok (.if_icmp .ne 52, 3) := by decide +kernel
theorem dX3_takeAtom_12 : decode cX3_takeAtom 12 = .ok (.iload_n 1, 1) := by decide +kernel
theorem dX3_takeAtom_13 : decode cX3_takeAtom 13 = .ok (.bipush 6, 2) := by decide +kernel
theorem dX3_takeAtom_15 : decode cX3_takeAtom 15 = .ok (.if_icmp .lt 5, 3) := by decide +kernel
theorem dX3_takeAtom_18 : decode cX3_takeAtom 18 = .ok (.iconst 0, 1) := by decide +kernel
theorem dX3_takeAtom_19 : decode cX3_takeAtom 19 = .ok (.ireturn, 1) := by decide +kernel
theorem dX3_takeAtom_20 : decode cX3_takeAtom 20 = .ok (.aload_n 0, 1) := by decide +kernel
theorem dX3_takeAtom_21 : decode cX3_takeAtom 21 = .ok (.getfield 17, 3) := by decide +kernel
theorem dX3_takeAtom_24 : decode cX3_takeAtom 24 = .ok (.dup, 1) := by decide +kernel
theorem dX3_takeAtom_25 : decode cX3_takeAtom 25 = .ok (.getfield 21, 3) := by decide +kernel
theorem dX3_takeAtom_28 : decode cX3_takeAtom 28 = .ok (.iconst 1, 1) := by decide +kernel
theorem dX3_takeAtom_29 : decode cX3_takeAtom 29 = .ok (.iadd, 1) := by decide +kernel
theorem dX3_takeAtom_30 : decode cX3_takeAtom 30 = .ok (.putfield 21, 3) := by decide +kernel
theorem dX3_takeAtom_33 : decode cX3_takeAtom 33 = .ok (.aload_n 0, 1) := by decide +kernel
theorem dX3_takeAtom_34 : decode cX3_takeAtom 34 = .ok (.iload_n 1, 1) := by decide +kernel
theorem dX3_takeAtom_35 : decode cX3_takeAtom 35 = .ok (.iconst 1, 1) := by decide +kernel
theorem dX3_takeAtom_36 : decode cX3_takeAtom 36 = .ok (.iadd, 1) := by decide +kernel
theorem dX3_takeAtom_37 : decode cX3_takeAtom 37 = .ok (.invokevirtual 53, 3) := by decide +kernel
theorem dX3_takeAtom_40 : decode cX3_takeAtom 40 = .ok (.ifCond .eq 19, 3) := by decide +kernel
theorem dX3_takeAtom_43 : decode cX3_takeAtom 43 = .ok (.aload_n 0, 1) := by decide +kernel
theorem dX3_takeAtom_44 : decode cX3_takeAtom 44 = .ok (.getfield 17, 3) := by decide +kernel
theorem dX3_takeAtom_47 : decode cX3_takeAtom 47 = .ok (.bipush 93, 2) := by decide +kernel
theorem dX3_takeAtom_49 : decode cX3_takeAtom 49 = .ok (.invokevirtual 37, 3) := by decide +kernel
theorem dX3_takeAtom_52 : decode cX3_takeAtom 52 = .ok (.ifCond .eq 7, 3) := by decide +kernel
theorem dX3_takeAtom_55 : decode cX3_takeAtom 55 = .ok (.iconst 1, 1) := by decide +kernel
theorem dX3_takeAtom_56 : decode cX3_takeAtom 56 = .ok (.goto 4, 3) := by decide +kernel
theorem dX3_takeAtom_59 : decode cX3_takeAtom 59 = .ok (.iconst 0, 1) := by decide +kernel
theorem dX3_takeAtom_60 : decode cX3_takeAtom 60 = .ok (.ireturn, 1) := by decide +kernel
theorem dX3_takeAtom_61 : decode cX3_takeAtom 61 = .ok (.aload_n 0, 1) := by decide +kernel
theorem dX3_takeAtom_62 : decode cX3_takeAtom 62 = .ok (.getfield 17, 3) := by decide +kernel
theorem dX3_takeAtom_65 : decode cX3_takeAtom 65 = .ok (.ldc 95, 2) := by decide +kernel
theorem dX3_takeAtom_67 : decode cX3_takeAtom 67 = .ok (.invokevirtual 81, 3) := by decide +kernel
theorem dX3_takeAtom_70 : decode cX3_takeAtom 70 = .ok (.istore_n 2, 1) := by decide +kernel
theorem dX3_takeAtom_71 : decode cX3_takeAtom 71 = .ok (.iload_n 2, 1) := by decide +kernel
theorem dX3_takeAtom_72 : decode cX3_takeAtom 72 = .ok (.ifCond .lt 12, 3) := by decide +kernel
theorem dX3_takeAtom_75 : decode cX3_takeAtom 75 = .ok (.aload_n 0, 1) := by decide +kernel
theorem dX3_takeAtom_76 : decode cX3_takeAtom 76 = .ok (.iconst (-1), 1) := by decide +kernel
theorem dX3_takeAtom_77 : decode cX3_takeAtom 77 = .ok (.iload_n 2, 1) := by decide +kernel
theorem dX3_takeAtom_78 : decode cX3_takeAtom 78 = .ok (.isub, 1) := by decide +kernel
theorem dX3_takeAtom_79 : decode cX3_takeAtom 79 = .ok (.invokevirtual 59, 3) := by decide +kernel
theorem dX3_takeAtom_82 : decode cX3_takeAtom 82 = .ok (.iconst 1, 1) := by decide +kernel
theorem dX3_takeAtom_83 : decode cX3_takeAtom 83 = .ok (.ireturn, 1) := by decide +kernel
theorem dX3_takeAtom_84 : decode cX3_takeAtom 84 = .ok (.aload_n 0, 1) := by decide +kernel
theorem dX3_takeAtom_85 : decode cX3_takeAtom 85 = .ok (.getfield 17, 3) := by decide +kernel
theorem dX3_takeAtom_88 : decode cX3_takeAtom 88 = .ok (.iconst 4, 1) := by decide +kernel
theorem dX3_takeAtom_89 : decode cX3_takeAtom 89 = .ok (.invokevirtual 97, 3) := by decide +kernel
theorem dX3_takeAtom_92 : decode cX3_takeAtom 92 = .ok (.istore_n 3, 1) := by decide +kernel
theorem dX3_takeAtom_93 : decode cX3_takeAtom 93 = .ok (.iload_n 3, 1) := by decide +kernel
theorem dX3_takeAtom_94 : decode cX3_takeAtom 94 = .ok (.ifCond .ge 5, 3) := by decide +kernel
theorem dX3_takeAtom_97 : decode cX3_takeAtom 97 = .ok (.iconst 0, 1) := by decide +kernel
theorem dX3_takeAtom_98 : decode cX3_takeAtom 98 = .ok (.ireturn, 1) := by decide +kernel
theorem dX3_takeAtom_99 : decode cX3_takeAtom 99 = .ok (.aload_n 0, 1) := by decide +kernel
theorem dX3_takeAtom_100 : decode cX3_takeAtom 100 = .ok (.iload_n 3, 1) := by decide +kernel
theorem dX3_takeAtom_101 : decode cX3_takeAtom 101 = .ok (.invokevirtual 59, 3) := by decide +kernel
theorem dX3_takeAtom_104 : decode cX3_takeAtom 104 = .ok (.iconst 1, 1) := by decide +kernel
theorem dX3_takeAtom_105 : decode cX3_takeAtom 105 = .ok (.ireturn, 1) := by decide +kernel
def X3_takeAtom_b (n : Nat) (rf : Int32 → Mm → Option (Bool × Mm)) (x1 : Int32) (h : Mm) : Option (Bool × Mm) := (bd (X7_sign n h) (fun r22 h24 => (if r22 = (91 : Int32) then (if x1 < (6 : Int32) then (bd (X3_takeSum n rf (x1 + (1 : Int32)) (wI h24 1 2 ((h24.1 1 2) + (1 : Int32)))) (fun r37 h39 => (if r37 = true then (bd (X7_take n (93 : Int32) h39) (fun r40 h42 => (if r40 = true then (some (true, h42)) else (some (false, h42))))) else (some (false, h39))))) else (some (false, h24))) else (bd (X7_takeOneOf n 1025 h24) (fun r25 h27 => (if r25 < 0 then (bd (X7_takeNumber n (4 : Int32) h27) (fun r28 h30 => (if 0 ≤ r28 then (bd (X3_order r28 h30) (fun _ h33 => (some (true, h33)))) else (some (false, h30))))) else (bd (X3_order ((-1 : Int32) - r25) h27) (fun _ h36 => (some (true, h36))))))))))
set_option maxRecDepth 100000 in
set_option maxHeartbeats 4000000 in
theorem s_X3_takeAtom_b {X : WX} {o : Mm} {n : Nat} {rf : Int32 → Mm → Option (Bool × Mm)} {dr : Nat} (hdr : 7 ≤ dr) (hrf : ∀ (x1 : Int32)  (h : Mm) (r : Bool) (h2 : Mm), rf x1 h = some (r, h2) → Sat X yX3_takeAtom cX3_takeAtom 4 (some .boolean) dr [.ref (xa X 7), .int x1] true o h (some (.int (b2i r))) h2) {DD : Nat} (hDD : dr + 3 ≤ DD) {x1 : Int32} {rv : Bool} {hz : Mm} {h : Mm} (hF : X3_takeAtom_b n rf x1 h = some (rv, hz)) : Sat X yX3_takeAtom cX3_takeAtom 4 (some .boolean) DD [.ref (xa X 7), .int x1] true o h (some (.int (b2i rv))) hz := by
  unfold X3_takeAtom_b at hF
  refine Sat.mk (own := RX3) rfl (by decide +kernel) (Nat.le_of_ble_eq_true rfl) (fun G => ?_)
  refine V.sub (lv2 := [(0, _), (1, _)]) [0, 1] rfl ?_
  refine V.aload_n 0 dX3_takeAtom_0 rfl rfl ?_
  refine V.getR (v := 1) fl_X3_17 sh_7 rfl fx_7_0 (by decide) dX3_takeAtom_1 ?_
  obtain ⟨r22, h24, hc23, hF⟩ := bd_s hF
  refine V.callVi mf_X7_sign ml_X3_43 sh_1 (s_X7_sign hc23) (by omega) rfl rfl (Nat.le_of_ble_eq_true rfl) dX3_takeAtom_4 ?_
  refine V.bipush (v := 91) dX3_takeAtom_7 (by decide) ?_
  refine V.icmp_ne (tgt := 61) dX3_takeAtom_9 rfl (fun c => ?_) (fun c => ?_)
  · replace hF := iq c hF
    refine V.aload_n 0 dX3_takeAtom_61 rfl rfl ?_
    refine V.getR (v := 1) fl_X3_17 sh_7 rfl fx_7_0 (by decide) dX3_takeAtom_62 ?_
    refine V.ldcS sc_1025 rfl rfl dX3_takeAtom_65 ?_
    obtain ⟨r25, h27, hc26, hF⟩ := bd_s hF
    refine V.callVi mf_X7_takeOneOf ml_X3_81 sh_1 (s_X7_takeOneOf ⟨by decide, by decide⟩ hc26) (by omega) rfl rfl (Nat.le_of_ble_eq_true rfl) dX3_takeAtom_67 ?_
    refine V.istore_n [(2, _), (0, _), (1, _)] dX3_takeAtom_70 rfl (by decide) rfl ?_
    refine V.iload_n 0 dX3_takeAtom_71 rfl rfl ?_
    refine V.if_lt (tgt := 84) dX3_takeAtom_72 rfl (fun c => ?_) (fun c => ?_)
    · replace hF := ip c hF
      refine V.aload_n 1 dX3_takeAtom_84 rfl rfl ?_
      refine V.getR (v := 1) fl_X3_17 sh_7 rfl fx_7_0 (by decide) dX3_takeAtom_85 ?_
      refine V.iconst (v := 4) dX3_takeAtom_88 rfl ?_
      obtain ⟨r28, h30, hc29, hF⟩ := bd_s hF
      refine V.callVi mf_X7_takeNumber ml_X3_97 sh_1 (s_X7_takeNumber hc29) (by omega) rfl rfl (Nat.le_of_ble_eq_true rfl) dX3_takeAtom_89 ?_
      refine V.istore_n [(3, _), (2, _), (0, _), (1, _)] dX3_takeAtom_92 rfl (by decide) rfl ?_
      refine V.iload_n 0 dX3_takeAtom_93 rfl rfl ?_
      refine V.if_ge (tgt := 99) dX3_takeAtom_94 rfl (fun c => ?_) (fun c => ?_)
      · replace hF := ip c hF
        refine V.aload_n 2 dX3_takeAtom_99 rfl rfl ?_
        refine V.iload_n 0 dX3_takeAtom_100 rfl rfl ?_
        obtain ⟨r31, h33, hc32, hF⟩ := bd_s hF
        refine V.callVv mf_X3_order ml_X3_59 sh_7 (s_X3_order hc32) (by omega) rfl rfl (Nat.le_of_ble_eq_true rfl) dX3_takeAtom_101 ?_
        refine V.iconst (v := 1) dX3_takeAtom_104 rfl ?_
        cases hF
        exact V.bret dX3_takeAtom_105
      · replace hF := iq c hF
        refine V.iconst (v := 0) dX3_takeAtom_97 rfl ?_
        cases hF
        exact V.bret dX3_takeAtom_98
    · replace hF := iq c hF
      refine V.aload_n 1 dX3_takeAtom_75 rfl rfl ?_
      refine V.iconst (v := -1) dX3_takeAtom_76 rfl ?_
      refine V.iload_n 0 dX3_takeAtom_77 rfl rfl ?_
      refine V.isub dX3_takeAtom_78 ?_
      obtain ⟨r34, h36, hc35, hF⟩ := bd_s hF
      refine V.callVv mf_X3_order ml_X3_59 sh_7 (s_X3_order hc35) (by omega) rfl rfl (Nat.le_of_ble_eq_true rfl) dX3_takeAtom_79 ?_
      refine V.iconst (v := 1) dX3_takeAtom_82 rfl ?_
      cases hF
      exact V.bret dX3_takeAtom_83
  · replace hF := ip c hF
    refine V.iload_n 1 dX3_takeAtom_12 rfl rfl ?_
    refine V.bipush (v := 6) dX3_takeAtom_13 (by decide) ?_
    refine V.icmp_lt (tgt := 20) dX3_takeAtom_15 rfl (fun c => ?_) (fun c => ?_)
    · replace hF := ip c hF
      refine V.aload_n 0 dX3_takeAtom_20 rfl rfl ?_
      refine V.getR (v := 1) fl_X3_17 sh_7 rfl fx_7_0 (by decide) dX3_takeAtom_21 ?_
      refine V.dup dX3_takeAtom_24 rfl ?_
      refine V.getI fl_X3_21 sh_1 rfl km_1 dX3_takeAtom_25 ?_
      refine V.iconst (v := 1) dX3_takeAtom_28 rfl ?_
      refine V.iadd dX3_takeAtom_29 ?_
      refine V.putI fl_X3_21 rfl (tyX7_ok 2 (by decide)) rfl rfl sh_1 rfl km_1 dX3_takeAtom_30 ?_
      refine V.aload_n 0 dX3_takeAtom_33 rfl rfl ?_
      refine V.iload_n 1 dX3_takeAtom_34 rfl rfl ?_
      refine V.iconst (v := 1) dX3_takeAtom_35 rfl ?_
      refine V.iadd dX3_takeAtom_36 ?_
      obtain ⟨r37, h39, hc38, hF⟩ := bd_s hF
      refine V.callVi mf_X3_takeSum ml_X3_53 sh_7 (s_X3_takeSum hdr hrf hc38) (by omega) rfl rfl (Nat.le_of_ble_eq_true rfl) dX3_takeAtom_37 ?_
      refine V.ifz_eq (tgt := 59) dX3_takeAtom_40 rfl (fun c => ?_) (fun c => ?_)
      · replace hF := iq c hF
        refine V.iconst (v := 0) dX3_takeAtom_59 rfl ?_
        cases hF
        exact V.bret dX3_takeAtom_60
      · replace hF := ip c hF
        refine V.aload_n 0 dX3_takeAtom_43 rfl rfl ?_
        refine V.getR (v := 1) fl_X3_17 sh_7 rfl fx_7_0 (by decide) dX3_takeAtom_44 ?_
        refine V.bipush (v := 93) dX3_takeAtom_47 (by decide) ?_
        obtain ⟨r40, h42, hc41, hF⟩ := bd_s hF
        refine V.callVi mf_X7_take ml_X3_37 sh_1 (s_X7_take hc41) (by omega) rfl rfl (Nat.le_of_ble_eq_true rfl) dX3_takeAtom_49 ?_
        refine V.ifz_eq (tgt := 59) dX3_takeAtom_52 rfl (fun c => ?_) (fun c => ?_)
        · replace hF := iq c hF
          refine V.iconst (v := 0) dX3_takeAtom_59 rfl ?_
          cases hF
          exact V.bret dX3_takeAtom_60
        · replace hF := ip c hF
          refine V.iconst (v := 1) dX3_takeAtom_55 rfl ?_
          refine V.goto (tgt := 60) dX3_takeAtom_56 rfl ?_
          cases hF
          exact V.bret dX3_takeAtom_60
    · replace hF := iq c hF
      refine V.iconst (v := 0) dX3_takeAtom_18 rfl ?_
      cases hF
      exact V.bret dX3_takeAtom_19
def X3_takeAtom (n : Nat) : Nat → Int32 → Mm → Option (Bool × Mm)
  | 0, _, _ => none
  | e + 1, x1, h => X3_takeAtom_b n (X3_takeAtom n e) x1 h
set_option maxRecDepth 100000 in
set_option maxHeartbeats 4000000 in
theorem s_X3_takeAtom {X : WX} {o : Mm} {n : Nat} : ∀ (e : Nat) (x1 : Int32) (h : Mm) (rv : Bool) (hz : Mm), X3_takeAtom n e x1 h = some (rv, hz) → Sat X yX3_takeAtom cX3_takeAtom 4 (some .boolean) (7 + 4 * e) [.ref (xa X 7), .int x1] true o h (some (.int (b2i rv))) hz := by
  intro e
  induction e with
  | zero => intro x1 h rv hz hF; exact nomatch (show (none : Option (Bool × Mm)) = some (rv, hz) from hF)
  | succ e ih => intro x1 h rv hz hF; exact s_X3_takeAtom_b (dr := 7 + 4 * e) (by omega) ih (by omega)  hF
/-! MonsterCot$LawText.takeUnit -/
theorem dX3_takeUnit_0 : decode cX3_takeUnit 0 = .ok (.aload_n 0, 1) := by decide +kernel
theorem dX3_takeUnit_1 : decode cX3_takeUnit 1 = .ok (.getfield 17, 3) := by decide +kernel
theorem dX3_takeUnit_4 : decode cX3_takeUnit 4 = .ok (.invokevirtual 43, 3) := by decide +kernel
theorem dX3_takeUnit_7 : decode cX3_takeUnit 7 = .ok (.istore_n 3, 1) := by decide +kernel
theorem dX3_takeUnit_8 : decode cX3_takeUnit 8 = .ok (.iload_n 2, 1) := by decide +kernel
theorem dX3_takeUnit_9 : decode cX3_takeUnit 9 = .ok (.ifCond .ne 22, 3) := by decide +kernel
theorem dX3_takeUnit_12 : decode cX3_takeUnit 12 = .ok (.iload_n 3, 1) := by decide +kernel
theorem dX3_takeUnit_13 : decode cX3_takeUnit 13 = .ok (.bipush 33, 2) := by decide +kernel
theorem dX3_takeUnit_15 : decode cX3_takeUnit 15 = .ok (.if_icmp .eq 9, 3) := by decide +kernel
theorem dX3_takeUnit_18 : decode cX3_takeUnit 18 = .ok (.iload_n 3, 1) := by decide +kernel
theorem dX3_takeUnit_19 : decode cX3_takeUnit 19 = .ok (.bipush 40, 2) := by decide +kernel
theorem dX3_takeUnit_21 : decode cX3_takeUnit 21 = .ok (.if_icmp .ne 10, 3) := by decide +kernel
theorem dX3_takeUnit_24 : decode cX3_takeUnit 24 = .ok (.aload_n 0, 1) := by decide +kernel
theorem dX3_takeUnit_25 : decode cX3_takeUnit 25 = .ok (.iload_n 3, 1) := by decide +kernel
theorem dX3_takeUnit_26 : decode cX3_takeUnit 26 = .ok (.iload_n 1, 1) := by decide +kernel
theorem dX3_takeUnit_27 : decode cX3_takeUnit 27 = .ok (.invokevirtual 77, 3) := by decide +kernel
theorem dX3_takeUnit_30 : decode cX3_takeUnit 30 = .ok (.ireturn, 1) := by decide +kernel
theorem dX3_takeUnit_31 : decode cX3_takeUnit 31 = .ok (.iload_n 2, 1) := by decide +kernel
theorem dX3_takeUnit_32 : decode cX3_takeUnit 32 = .ok (.ifCond .ne 13, 3) := by decide +kernel
theorem dX3_takeUnit_35 : decode cX3_takeUnit 35 = .ok (.aload_n 0, 1) := by decide +kernel
theorem dX3_takeUnit_36 : decode cX3_takeUnit 36 = .ok (.iload_n 1, 1) := by decide +kernel
theorem dX3_takeUnit_37 : decode cX3_takeUnit 37 = .ok (.invokevirtual 53, 3) := by decide +kernel
theorem dX3_takeUnit_40 : decode cX3_takeUnit 40 = .ok (.ifCond .ne 5, 3) := by decide +kernel
theorem dX3_takeUnit_43 : decode cX3_takeUnit 43 = .ok (.iconst 0, 1) := by decide +kernel
theorem dX3_takeUnit_44 : decode cX3_takeUnit 44 = .ok (.ireturn, 1) := by decide +kernel
theorem dX3_takeUnit_45 : decode cX3_takeUnit 45 = .ok (.aload_n 0, 1) := by decide +kernel
theorem dX3_takeUnit_46 : decode cX3_takeUnit 46 = .ok (.getfield 17, 3) := by decide +kernel
theorem dX3_takeUnit_49 : decode cX3_takeUnit 49 = .ok (.ldc 57, 2) := by decide +kernel
theorem dX3_takeUnit_51 : decode cX3_takeUnit 51 = .ok (.invokevirtual 81, 3) := by decide +kernel
theorem dX3_takeUnit_54 : decode cX3_takeUnit 54 = .ok (.istore 4, 2) := by decide +kernel
theorem dX3_takeUnit_56 : decode cX3_takeUnit 56 = .ok (.iload 4, 2) := by decide +kernel
theorem dX3_takeUnit_58 : decode cX3_takeUnit 58 = .ok (.ifCond .lt 11, 3) := by decide +kernel
theorem dX3_takeUnit_61 : decode cX3_takeUnit 61 = .ok (.aload_n 0, 1) := by decide +kernel
theorem dX3_takeUnit_62 : decode cX3_takeUnit 62 = .ok (.iload_n 1, 1) := by decide +kernel
theorem dX3_takeUnit_63 : decode cX3_takeUnit 63 = .ok (.invokevirtual 53, 3) := by decide +kernel
theorem dX3_takeUnit_66 : decode cX3_takeUnit 66 = .ok (.ifCond .ne 5, 3) := by decide +kernel
theorem dX3_takeUnit_69 : decode cX3_takeUnit 69 = .ok (.iconst 0, 1) := by decide +kernel
theorem dX3_takeUnit_70 : decode cX3_takeUnit 70 = .ok (.ireturn, 1) := by decide +kernel
theorem dX3_takeUnit_71 : decode cX3_takeUnit 71 = .ok (.aload_n 0, 1) := by decide +kernel
theorem dX3_takeUnit_72 : decode cX3_takeUnit 72 = .ok (.bipush (-11), 2) := by decide +kernel
theorem dX3_takeUnit_74 : decode cX3_takeUnit 74 = .ok (.iload 4, 2) := by decide +kernel
theorem dX3_takeUnit_76 : decode cX3_takeUnit 76 = .ok (.isub, 1) := by decide +kernel
theorem dX3_takeUnit_77 : decode cX3_takeUnit 77 = .ok (.invokevirtual 59, 3) := by decide +kernel
theorem dX3_takeUnit_80 : decode cX3_takeUnit 80 = .ok (.iconst 1, 1) := by decide +kernel
theorem dX3_takeUnit_81 : decode cX3_takeUnit 81 = .ok (.ireturn, 1) := by decide +kernel
def X3_takeUnit_24 (n : Nat) (rf : Int32 → Int32 → Mm → Option (Bool × Mm)) (x1 : Int32) (x3 : Int32) (h : Mm) : Option (Bool × Mm) := (bd (rf x3 x1 h) (fun r28 h30 => (some (r28, h30))))
set_option maxRecDepth 100000 in
set_option maxHeartbeats 4000000 in
theorem v_X3_takeUnit_24 {X : WX} {G : GX} {o : Mm} {n : Nat} {rf : Int32 → Int32 → Mm → Option (Bool × Mm)} {dr : Nat} (hdr : 47 ≤ dr) (hrf : ∀ (x1 : Int32) (x2 : Int32)  (h : Mm) (r : Bool) (h2 : Mm), rf x1 x2 h = some (r, h2) → Sat X yX3_takeInnerUnit cX3_takeInnerUnit 3 (some .boolean) dr [.ref (xa X 7), .int x1, .int x2] true o h (some (.int (b2i r))) h2) {rv : Bool} {hz : Mm} {x1 : Int32} {x3 : Int32} {h : Mm} (hF : X3_takeUnit_24 n rf x1 x3 h = some (rv, hz)) : V X G RX3 cX3_takeUnit 5 (some .boolean) (dr + 1) 0 0 (QR X G true o (some (.int (b2i rv))) hz) true o 24 [(0, .ref (xa X 7)), (1, .int x1), (3, .int x3)] [] h := by
  unfold X3_takeUnit_24 at hF
  refine V.aload_n 0 dX3_takeUnit_24 rfl rfl ?_
  refine V.iload_n 2 dX3_takeUnit_25 rfl rfl ?_
  refine V.iload_n 1 dX3_takeUnit_26 rfl rfl ?_
  obtain ⟨r28, h30, hc29, hF⟩ := bd_s hF
  refine V.callVi mf_X3_takeInnerUnit ml_X3_77 sh_7 (hrf _ _ _ _ _ hc29) (by omega) rfl rfl (Nat.le_of_ble_eq_true rfl) dX3_takeUnit_27 ?_
  cases hF
  exact V.bret dX3_takeUnit_30
def X3_takeUnit_45 (n : Nat) (rf : Int32 → Int32 → Mm → Option (Bool × Mm)) (x1 : Int32) (h : Mm) : Option (Bool × Mm) := (bd (X7_takeOneOf n 1028 h) (fun r31 h33 => (if r31 < 0 then (some (false, h33)) else (bd (X3_takeSum n (X3_takeAtom n 9) x1 h33) (fun r34 h36 => (if r34 = true then (bd (X3_order ((-11 : Int32) - r31) h36) (fun _ h39 => (some (true, h39)))) else (some (false, h36))))))))
set_option maxRecDepth 100000 in
set_option maxHeartbeats 4000000 in
theorem v_X3_takeUnit_45 {X : WX} {G : GX} {o : Mm} {n : Nat} {rf : Int32 → Int32 → Mm → Option (Bool × Mm)} {dr : Nat} (hdr : 47 ≤ dr) (hrf : ∀ (x1 : Int32) (x2 : Int32)  (h : Mm) (r : Bool) (h2 : Mm), rf x1 x2 h = some (r, h2) → Sat X yX3_takeInnerUnit cX3_takeInnerUnit 3 (some .boolean) dr [.ref (xa X 7), .int x1, .int x2] true o h (some (.int (b2i r))) h2) {rv : Bool} {hz : Mm} {x1 : Int32} {h : Mm} (hF : X3_takeUnit_45 n rf x1 h = some (rv, hz)) : V X G RX3 cX3_takeUnit 5 (some .boolean) (dr + 1) 0 0 (QR X G true o (some (.int (b2i rv))) hz) true o 45 [(0, .ref (xa X 7)), (1, .int x1)] [] h := by
  unfold X3_takeUnit_45 at hF
  refine V.aload_n 0 dX3_takeUnit_45 rfl rfl ?_
  refine V.getR (v := 1) fl_X3_17 sh_7 rfl fx_7_0 (by decide) dX3_takeUnit_46 ?_
  refine V.ldcS sc_1028 rfl rfl dX3_takeUnit_49 ?_
  obtain ⟨r31, h33, hc32, hF⟩ := bd_s hF
  refine V.callVi mf_X7_takeOneOf ml_X3_81 sh_1 (s_X7_takeOneOf ⟨by decide, by decide⟩ hc32) (by omega) rfl rfl (Nat.le_of_ble_eq_true rfl) dX3_takeUnit_51 ?_
  refine V.istore [(4, _), (0, _), (1, _)] dX3_takeUnit_54 (by decide) rfl ?_
  refine V.iload 0 dX3_takeUnit_56 rfl ?_
  refine V.if_lt (tgt := 69) dX3_takeUnit_58 rfl (fun c => ?_) (fun c => ?_)
  · replace hF := ip c hF
    refine V.iconst (v := 0) dX3_takeUnit_69 rfl ?_
    cases hF
    exact V.bret dX3_takeUnit_70
  · replace hF := iq c hF
    refine V.aload_n 1 dX3_takeUnit_61 rfl rfl ?_
    refine V.iload_n 2 dX3_takeUnit_62 rfl rfl ?_
    obtain ⟨r34, h36, hc35, hF⟩ := bd_s hF
    refine V.callVi mf_X3_takeSum ml_X3_53 sh_7 (s_X3_takeSum (dr := 43) (by decide) (s_X3_takeAtom 9) hc35) (by omega) rfl rfl (Nat.le_of_ble_eq_true rfl) dX3_takeUnit_63 ?_
    refine V.ifz_ne (tgt := 71) dX3_takeUnit_66 rfl (fun c => ?_) (fun c => ?_)
    · replace hF := ip c hF
      refine V.aload_n 1 dX3_takeUnit_71 rfl rfl ?_
      refine V.bipush (v := -11) dX3_takeUnit_72 (by decide) ?_
      refine V.iload 0 dX3_takeUnit_74 rfl ?_
      refine V.isub dX3_takeUnit_76 ?_
      obtain ⟨r37, h39, hc38, hF⟩ := bd_s hF
      refine V.callVv mf_X3_order ml_X3_59 sh_7 (s_X3_order hc38) (by omega) rfl rfl (Nat.le_of_ble_eq_true rfl) dX3_takeUnit_77 ?_
      refine V.iconst (v := 1) dX3_takeUnit_80 rfl ?_
      cases hF
      exact V.bret dX3_takeUnit_81
    · replace hF := iq c hF
      refine V.iconst (v := 0) dX3_takeUnit_69 rfl ?_
      cases hF
      exact V.bret dX3_takeUnit_70
def X3_takeUnit_31 (n : Nat) (rf : Int32 → Int32 → Mm → Option (Bool × Mm)) (x1 : Int32) (x2 : Bool) (h : Mm) : Option (Bool × Mm) := (if x2 = true then (X3_takeUnit_45 n rf x1 h) else (bd (X3_takeSum n (X3_takeAtom n 9) x1 h) (fun r40 h42 => (if r40 = true then (X3_takeUnit_45 n rf x1 h42) else (some (false, h42))))))
set_option maxRecDepth 100000 in
set_option maxHeartbeats 4000000 in
theorem v_X3_takeUnit_31 {X : WX} {G : GX} {o : Mm} {n : Nat} {rf : Int32 → Int32 → Mm → Option (Bool × Mm)} {dr : Nat} (hdr : 47 ≤ dr) (hrf : ∀ (x1 : Int32) (x2 : Int32)  (h : Mm) (r : Bool) (h2 : Mm), rf x1 x2 h = some (r, h2) → Sat X yX3_takeInnerUnit cX3_takeInnerUnit 3 (some .boolean) dr [.ref (xa X 7), .int x1, .int x2] true o h (some (.int (b2i r))) h2) {rv : Bool} {hz : Mm} {x1 : Int32} {x2 : Bool} {h : Mm} (hF : X3_takeUnit_31 n rf x1 x2 h = some (rv, hz)) : V X G RX3 cX3_takeUnit 5 (some .boolean) (dr + 1) 0 0 (QR X G true o (some (.int (b2i rv))) hz) true o 31 [(0, .ref (xa X 7)), (1, .int x1), (2, .int (b2i x2))] [] h := by
  unfold X3_takeUnit_31 at hF
  refine V.iload_n 2 dX3_takeUnit_31 rfl rfl ?_
  refine V.ifz_ne (tgt := 45) dX3_takeUnit_32 rfl (fun c => ?_) (fun c => ?_)
  · replace hF := ip c hF
    exact V.sub [0, 1] rfl (v_X3_takeUnit_45 hdr hrf hF)
  · replace hF := iq c hF
    refine V.aload_n 0 dX3_takeUnit_35 rfl rfl ?_
    refine V.iload_n 1 dX3_takeUnit_36 rfl rfl ?_
    obtain ⟨r40, h42, hc41, hF⟩ := bd_s hF
    refine V.callVi mf_X3_takeSum ml_X3_53 sh_7 (s_X3_takeSum (dr := 43) (by decide) (s_X3_takeAtom 9) hc41) (by omega) rfl rfl (Nat.le_of_ble_eq_true rfl) dX3_takeUnit_37 ?_
    refine V.ifz_ne (tgt := 45) dX3_takeUnit_40 rfl (fun c => ?_) (fun c => ?_)
    · replace hF := ip c hF
      exact V.sub [0, 1] rfl (v_X3_takeUnit_45 hdr hrf hF)
    · replace hF := iq c hF
      refine V.iconst (v := 0) dX3_takeUnit_43 rfl ?_
      cases hF
      exact V.bret dX3_takeUnit_44
def X3_takeUnit (n : Nat) (rf : Int32 → Int32 → Mm → Option (Bool × Mm)) (x1 : Int32) (x2 : Bool) (h : Mm) : Option (Bool × Mm) := (bd (X7_sign n h) (fun r43 h45 => (if x2 = true then (X3_takeUnit_31 n rf x1 x2 h45) else (if r43 = (33 : Int32) then (X3_takeUnit_24 n rf x1 r43 h45) else (if r43 = (40 : Int32) then (X3_takeUnit_24 n rf x1 r43 h45) else (X3_takeUnit_31 n rf x1 x2 h45))))))
set_option maxRecDepth 100000 in
set_option maxHeartbeats 4000000 in
theorem s_X3_takeUnit {X : WX} {o : Mm} {n : Nat} {rf : Int32 → Int32 → Mm → Option (Bool × Mm)} {dr : Nat} (hdr : 47 ≤ dr) (hrf : ∀ (x1 : Int32) (x2 : Int32)  (h : Mm) (r : Bool) (h2 : Mm), rf x1 x2 h = some (r, h2) → Sat X yX3_takeInnerUnit cX3_takeInnerUnit 3 (some .boolean) dr [.ref (xa X 7), .int x1, .int x2] true o h (some (.int (b2i r))) h2) {x1 : Int32} {x2 : Bool} {rv : Bool} {hz : Mm} {h : Mm} (hF : X3_takeUnit n rf x1 x2 h = some (rv, hz)) : Sat X yX3_takeUnit cX3_takeUnit 5 (some .boolean) (dr + 1) [.ref (xa X 7), .int x1, .int (b2i x2)] true o h (some (.int (b2i rv))) hz := by
  unfold X3_takeUnit at hF
  refine Sat.mk (own := RX3) rfl (by decide +kernel) (Nat.le_of_ble_eq_true rfl) (fun G => ?_)
  refine V.sub (lv2 := [(0, _), (1, _), (2, _)]) [0, 1, 2] rfl ?_
  refine V.aload_n 0 dX3_takeUnit_0 rfl rfl ?_
  refine V.getR (v := 1) fl_X3_17 sh_7 rfl fx_7_0 (by decide) dX3_takeUnit_1 ?_
  obtain ⟨r43, h45, hc44, hF⟩ := bd_s hF
  refine V.callVi mf_X7_sign ml_X3_43 sh_1 (s_X7_sign hc44) (by omega) rfl rfl (Nat.le_of_ble_eq_true rfl) dX3_takeUnit_4 ?_
  refine V.istore_n [(3, _), (0, _), (1, _), (2, _)] dX3_takeUnit_7 rfl (by decide) rfl ?_
  refine V.iload_n 3 dX3_takeUnit_8 rfl rfl ?_
  refine V.ifz_ne (tgt := 31) dX3_takeUnit_9 rfl (fun c => ?_) (fun c => ?_)
  · replace hF := ip c hF
    exact V.sub [1, 2, 3] rfl (v_X3_takeUnit_31 hdr hrf hF)
  · replace hF := iq c hF
    refine V.iload_n 0 dX3_takeUnit_12 rfl rfl ?_
    refine V.bipush (v := 33) dX3_takeUnit_13 (by decide) ?_
    refine V.icmp_eq (tgt := 24) dX3_takeUnit_15 rfl (fun c => ?_) (fun c => ?_)
    · replace hF := ip c hF
      exact V.sub [1, 2, 0] rfl (v_X3_takeUnit_24 hdr hrf hF)
    · replace hF := iq c hF
      refine V.iload_n 0 dX3_takeUnit_18 rfl rfl ?_
      refine V.bipush (v := 40) dX3_takeUnit_19 (by decide) ?_
      refine V.icmp_ne (tgt := 31) dX3_takeUnit_21 rfl (fun c => ?_) (fun c => ?_)
      · replace hF := iq c hF
        exact V.sub [1, 2, 3] rfl (v_X3_takeUnit_31 hdr hrf hF)
      · replace hF := ip c hF
        exact V.sub [1, 2, 0] rfl (v_X3_takeUnit_24 hdr hrf hF)
/-! MonsterCot$LawText.takeTruth -/
theorem dX3_takeTruth_0 : decode cX3_takeTruth 0 = .ok (.aload_n 0, 1) := by decide +kernel
theorem dX3_takeTruth_1 : decode cX3_takeTruth 1 = .ok (.iload_n 1, 1) := by decide +kernel
theorem dX3_takeTruth_2 : decode cX3_takeTruth 2 = .ok (.iload_n 2, 1) := by decide +kernel
theorem dX3_takeTruth_3 : decode cX3_takeTruth 3 = .ok (.invokevirtual 74, 3) := by decide +kernel
theorem dX3_takeTruth_6 : decode cX3_takeTruth 6 = .ok (.ifCond .ne 5, 3) := by decide +kernel
theorem dX3_takeTruth_9 : decode cX3_takeTruth 9 = .ok (.iconst 0, 1) := by decide +kernel
theorem dX3_takeTruth_10 : decode cX3_takeTruth 10 = .ok (.ireturn, 1) := by decide +kernel
theorem dX3_takeTruth_11 : decode cX3_takeTruth 11 = .ok (.iconst 0, 1) := by decide +kernel
theorem dX3_takeTruth_12 : decode cX3_takeTruth 12 = .ok (.istore_n 3, 1) := by decide +kernel
theorem dX3_takeTruth_13 : decode cX3_takeTruth 13 = .ok (.iload_n 3, 1) := by decide +kernel
theorem dX3_takeTruth_14 : decode cX3_takeTruth 14 = .ok (.sipush 240, 3) := by decide +kernel
theorem dX3_takeTruth_17 : decode cX3_takeTruth 17 = .ok (.if_icmp .ge 38, 3) := by decide +kernel
theorem dX3_takeTruth_20 : decode cX3_takeTruth 20 = .ok (.aload_n 0, 1) := by decide +kernel
theorem dX3_takeTruth_21 : decode cX3_takeTruth 21 = .ok (.getfield 17, 3) := by decide +kernel
theorem dX3_takeTruth_24 : decode cX3_takeTruth 24 = .ok (.bipush 38, 2) := by decide +kernel
theorem dX3_takeTruth_26 : decode cX3_takeTruth 26 = .ok (.invokevirtual 37, 3) := by decide +kernel
theorem dX3_takeTruth_29 : decode cX3_takeTruth 29 = .ok (.ifCond .eq 26, 3) := by decide +kernel
theorem dX3_takeTruth_32 : decode cX3_takeTruth 32 = .ok (.aload_n 0, 1) := by decide +kernel
theorem dX3_takeTruth_33 : decode cX3_takeTruth 33 = .ok (.iload_n 1, 1) := by decide +kernel
theorem dX3_takeTruth_34 : decode cX3_takeTruth 34 = .ok (.iconst 0, 1) := by decide +kernel
theorem dX3_takeTruth_35 : decode cX3_takeTruth 35 = .ok (.invokevirtual 74, 3) := by decide +kernel
theorem dX3_takeTruth_38 : decode cX3_takeTruth 38 = .ok (.ifCond .ne 5, 3) := by decide +kernel
theorem dX3_takeTruth_41 : decode cX3_takeTruth 41 = .ok (.iconst 0, 1) := by decide +kernel
theorem dX3_takeTruth_42 : decode cX3_takeTruth 42 = .ok (.ireturn, 1) := by decide +kernel
theorem dX3_takeTruth_43 : decode cX3_takeTruth 43 = .ok (.aload_n 0, 1) := by decide +kernel
theorem dX3_takeTruth_44 : decode cX3_takeTruth 44 = .ok (.bipush (-14), 2) := by decide +kernel
theorem dX3_takeTruth_46 : decode cX3_takeTruth 46 = .ok (.invokevirtual 59, 3) := by decide +kernel
theorem dX3_takeTruth_49 : decode cX3_takeTruth 49 = .ok (.iinc 3 1, 3) := by decide +kernel
theorem dX3_takeTruth_52 : decode cX3_takeTruth 52 = .ok (.goto (-39), 3) := by decide +kernel
theorem dX3_takeTruth_55 : decode cX3_takeTruth 55 = .ok (.iconst 1, 1) := by decide +kernel
theorem dX3_takeTruth_56 : decode cX3_takeTruth 56 = .ok (.ireturn, 1) := by decide +kernel
def X3_takeTruth_13 (n : Nat) (rf : Int32 → Int32 → Mm → Option (Bool × Mm)) : Nat → Int32 → Int32 → Mm → Option (Bool × Mm)
  | 0, _, _, _ => none
  | f + 1, x1, x3, h => (if (240 : Int32) ≤ x3 then (some (true, h)) else (bd (X7_take n (38 : Int32) h) (fun r25 h27 => (if r25 = true then (bd (X3_takeUnit n rf x1 false h27) (fun r28 h30 => (if r28 = true then (bd (X3_order (-14 : Int32) h30) (fun _ h33 => ((X3_takeTruth_13 n rf f) x1 (x3 + (1)) h33))) else (some (false, h30))))) else (some (true, h27))))))
set_option maxRecDepth 100000 in
set_option maxHeartbeats 4000000 in
theorem v_X3_takeTruth_13 {X : WX} {G : GX} {o : Mm} {n : Nat} {rf : Int32 → Int32 → Mm → Option (Bool × Mm)} {dr : Nat} (hdr : 47 ≤ dr) (hrf : ∀ (x1 : Int32) (x2 : Int32)  (h : Mm) (r : Bool) (h2 : Mm), rf x1 x2 h = some (r, h2) → Sat X yX3_takeInnerUnit cX3_takeInnerUnit 3 (some .boolean) dr [.ref (xa X 7), .int x1, .int x2] true o h (some (.int (b2i r))) h2) {rv : Bool} {hz : Mm} : ∀ (f : Nat) (x1 : Int32) (x3 : Int32) (h : Mm), X3_takeTruth_13 n rf f x1 x3 h = some (rv, hz) → V X G RX3 cX3_takeTruth 4 (some .boolean) (dr + 2) 0 0 (QR X G true o (some (.int (b2i rv))) hz) true o 13 [(0, .ref (xa X 7)), (1, .int x1), (3, .int x3)] [] h := by
  intro f
  induction f with
  | zero => intro x1 x3 h hF; exact nomatch (show (none : Option (Bool × Mm)) = some (rv, hz) from hF)
  | succ f ih =>
    intro x1 x3 h hF
    unfold X3_takeTruth_13 at hF
    refine V.iload_n 2 dX3_takeTruth_13 rfl rfl ?_
    refine V.sipush (v := 240) dX3_takeTruth_14 (by decide) ?_
    refine V.icmp_ge (tgt := 55) dX3_takeTruth_17 rfl (fun c => ?_) (fun c => ?_)
    · replace hF := ip c hF
      refine V.iconst (v := 1) dX3_takeTruth_55 rfl ?_
      cases hF
      exact V.bret dX3_takeTruth_56
    · replace hF := iq c hF
      refine V.aload_n 0 dX3_takeTruth_20 rfl rfl ?_
      refine V.getR (v := 1) fl_X3_17 sh_7 rfl fx_7_0 (by decide) dX3_takeTruth_21 ?_
      refine V.bipush (v := 38) dX3_takeTruth_24 (by decide) ?_
      obtain ⟨r25, h27, hc26, hF⟩ := bd_s hF
      refine V.callVi mf_X7_take ml_X3_37 sh_1 (s_X7_take hc26) (by omega) rfl rfl (Nat.le_of_ble_eq_true rfl) dX3_takeTruth_26 ?_
      refine V.ifz_eq (tgt := 55) dX3_takeTruth_29 rfl (fun c => ?_) (fun c => ?_)
      · replace hF := iq c hF
        refine V.iconst (v := 1) dX3_takeTruth_55 rfl ?_
        cases hF
        exact V.bret dX3_takeTruth_56
      · replace hF := ip c hF
        refine V.aload_n 0 dX3_takeTruth_32 rfl rfl ?_
        refine V.iload_n 1 dX3_takeTruth_33 rfl rfl ?_
        refine V.iconst (v := 0) dX3_takeTruth_34 rfl ?_
        obtain ⟨r28, h30, hc29, hF⟩ := bd_s hF
        refine V.callVi mf_X3_takeUnit ml_X3_74 sh_7 (s_X3_takeUnit hdr hrf hc29) (by omega) rfl rfl (Nat.le_of_ble_eq_true rfl) dX3_takeTruth_35 ?_
        refine V.ifz_ne (tgt := 43) dX3_takeTruth_38 rfl (fun c => ?_) (fun c => ?_)
        · replace hF := ip c hF
          refine V.aload_n 0 dX3_takeTruth_43 rfl rfl ?_
          refine V.bipush (v := -14) dX3_takeTruth_44 (by decide) ?_
          obtain ⟨r31, h33, hc32, hF⟩ := bd_s hF
          refine V.callVv mf_X3_order ml_X3_59 sh_7 (s_X3_order hc32) (by omega) rfl rfl (Nat.le_of_ble_eq_true rfl) dX3_takeTruth_46 ?_
          refine V.iinc (v := (x3 + (1))) 2 [(3, _), (0, _), (1, _)] dX3_takeTruth_49 rfl rfl (by decide) rfl ?_
          refine V.goto (tgt := 13) dX3_takeTruth_52 rfl ?_
          exact V.sub [1, 2, 0] rfl (ih _ _ _ hF)
        · replace hF := iq c hF
          refine V.iconst (v := 0) dX3_takeTruth_41 rfl ?_
          cases hF
          exact V.bret dX3_takeTruth_42
def X3_takeTruth (n : Nat) (rf : Int32 → Int32 → Mm → Option (Bool × Mm)) (x1 : Int32) (x2 : Bool) (h : Mm) : Option (Bool × Mm) := (bd (X3_takeUnit n rf x1 x2 h) (fun r34 h36 => (if r34 = true then (X3_takeTruth_13 n rf n x1 (0 : Int32) h36) else (some (false, h36)))))
set_option maxRecDepth 100000 in
set_option maxHeartbeats 4000000 in
theorem s_X3_takeTruth {X : WX} {o : Mm} {n : Nat} {rf : Int32 → Int32 → Mm → Option (Bool × Mm)} {dr : Nat} (hdr : 47 ≤ dr) (hrf : ∀ (x1 : Int32) (x2 : Int32)  (h : Mm) (r : Bool) (h2 : Mm), rf x1 x2 h = some (r, h2) → Sat X yX3_takeInnerUnit cX3_takeInnerUnit 3 (some .boolean) dr [.ref (xa X 7), .int x1, .int x2] true o h (some (.int (b2i r))) h2) {x1 : Int32} {x2 : Bool} {rv : Bool} {hz : Mm} {h : Mm} (hF : X3_takeTruth n rf x1 x2 h = some (rv, hz)) : Sat X yX3_takeTruth cX3_takeTruth 4 (some .boolean) (dr + 2) [.ref (xa X 7), .int x1, .int (b2i x2)] true o h (some (.int (b2i rv))) hz := by
  unfold X3_takeTruth at hF
  refine Sat.mk (own := RX3) rfl (by decide +kernel) (Nat.le_of_ble_eq_true rfl) (fun G => ?_)
  refine V.sub (lv2 := [(0, _), (1, _), (2, _)]) [0, 1, 2] rfl ?_
  refine V.aload_n 0 dX3_takeTruth_0 rfl rfl ?_
  refine V.iload_n 1 dX3_takeTruth_1 rfl rfl ?_
  refine V.iload_n 2 dX3_takeTruth_2 rfl rfl ?_
  obtain ⟨r34, h36, hc35, hF⟩ := bd_s hF
  refine V.callVi mf_X3_takeUnit ml_X3_74 sh_7 (s_X3_takeUnit hdr hrf hc35) (by omega) rfl rfl (Nat.le_of_ble_eq_true rfl) dX3_takeTruth_3 ?_
  refine V.ifz_ne (tgt := 11) dX3_takeTruth_6 rfl (fun c => ?_) (fun c => ?_)
  · replace hF := ip c hF
    refine V.iconst (v := 0) dX3_takeTruth_11 rfl ?_
    refine V.istore_n [(3, _), (0, _), (1, _), (2, _)] dX3_takeTruth_12 rfl (by decide) rfl ?_
    exact V.sub [1, 2, 0] rfl (v_X3_takeTruth_13 hdr hrf n _ _ _ hF)
  · replace hF := iq c hF
    refine V.iconst (v := 0) dX3_takeTruth_9 rfl ?_
    cases hF
    exact V.bret dX3_takeTruth_10
/-! MonsterCot$LawText.takeCondition -/
theorem dX3_takeCondition_0 : decode cX3_takeCondition 0 = .ok (.aload_n 0, 1) := by decide +kernel
theorem dX3_takeCondition_1 : decode cX3_takeCondition 1 = .ok (.iload_n 1, 1) := by decide +kernel
theorem dX3_takeCondition_2 : decode cX3_takeCondition 2 = .ok (.iload_n 2, 1) := by decide +kernel
theorem dX3_takeCondition_3 : decode cX3_takeCondition 3 = .ok (.invokevirtual 71, 3) := by decide +kernel
theorem dX3_takeCondition_6 : decode cX3_takeCondition 6 = .ok (.ifCond .ne 5, 3) := by decide +kernel
theorem dX3_takeCondition_9 : decode cX3_takeCondition 9 = .ok (.iconst 0, 1) := by decide +kernel
theorem dX3_takeCondition_10 : decode cX3_takeCondition 10 = .ok (.ireturn, 1) := by decide +kernel
theorem dX3_takeCondition_11 : decode cX3_takeCondition 11 = .ok (.iconst 0, 1) := by decide +kernel
theorem dX3_takeCondition_12 : decode cX3_takeCondition 12 = .ok (.istore_n 3, 1) := by decide +kernel
theorem dX3_takeCondition_13 : decode cX3_takeCondition 13 = .ok (.iload_n 3, 1) := by decide +kernel
theorem dX3_takeCondition_14 : decode cX3_takeCondition 14 = .ok (.sipush 240, 3) := by decide +kernel
theorem dX3_takeCondition_17 : decode cX3_takeCondition 17 = .ok (.if_icmp .ge 38, 3) := by decide +kernel
theorem dX3_takeCondition_20 : decode cX3_takeCondition 20 = .ok (.aload_n 0, 1) := by decide +kernel
theorem dX3_takeCondition_21 : decode cX3_takeCondition 21 = .ok (.getfield 17, 3) := by decide +kernel
theorem dX3_takeCondition_24 : decode cX3_takeCondition 24 = .ok (.bipush 124, 2) := by decide +kernel
theorem dX3_takeCondition_26 : decode cX3_takeCondition 26 = .ok (.invokevirtual 37, 3) := by decide +kernel
theorem dX3_takeCondition_29 : decode cX3_takeCondition 29 = .ok (.ifCond .eq 26, 3) := by decide +kernel
theorem dX3_takeCondition_32 : decode cX3_takeCondition 32 = .ok (.aload_n 0, 1) := by decide +kernel
theorem dX3_takeCondition_33 : decode cX3_takeCondition 33 = .ok (.iload_n 1, 1) := by decide +kernel
theorem dX3_takeCondition_34 : decode cX3_takeCondition 34 = .ok (.iconst 0, 1) := by decide +kernel
theorem dX3_takeCondition_35 : decode cX3_takeCondition 35 = .ok (.invokevirtual 71, 3) := by decide +kernel
theorem dX3_takeCondition_38 : decode cX3_takeCondition 38 = .ok (.ifCond .ne 5, 3) := by decide +kernel
theorem dX3_takeCondition_41 : decode cX3_takeCondition 41 = .ok (.iconst 0, 1) := by decide +kernel
theorem dX3_takeCondition_42 : decode cX3_takeCondition 42 = .ok (.ireturn, 1) := by decide +kernel
theorem dX3_takeCondition_43 : decode cX3_takeCondition 43 = .ok (.aload_n 0, 1) := by decide +kernel
theorem dX3_takeCondition_44 : decode cX3_takeCondition 44 = .ok (.bipush (-15), 2) := by decide +kernel
theorem dX3_takeCondition_46 : decode cX3_takeCondition 46 = .ok (.invokevirtual 59, 3) := by decide +kernel
theorem dX3_takeCondition_49 : decode cX3_takeCondition 49 = .ok (.iinc 3 1, 3) := by decide +kernel
theorem dX3_takeCondition_52 : decode cX3_takeCondition 52 = .ok (.goto (-39), 3) := by decide +kernel
theorem dX3_takeCondition_55 : decode cX3_takeCondition 55 = .ok (.iconst 1, 1) := by decide +kernel
theorem dX3_takeCondition_56 : decode cX3_takeCondition 56 = .ok (.ireturn, 1) := by decide +kernel
def X3_takeCondition_13 (n : Nat) (rf : Int32 → Int32 → Mm → Option (Bool × Mm)) : Nat → Int32 → Int32 → Mm → Option (Bool × Mm)
  | 0, _, _, _ => none
  | f + 1, x1, x3, h => (if (240 : Int32) ≤ x3 then (some (true, h)) else (bd (X7_take n (124 : Int32) h) (fun r25 h27 => (if r25 = true then (bd (X3_takeTruth n rf x1 false h27) (fun r28 h30 => (if r28 = true then (bd (X3_order (-15 : Int32) h30) (fun _ h33 => ((X3_takeCondition_13 n rf f) x1 (x3 + (1)) h33))) else (some (false, h30))))) else (some (true, h27))))))
set_option maxRecDepth 100000 in
set_option maxHeartbeats 4000000 in
theorem v_X3_takeCondition_13 {X : WX} {G : GX} {o : Mm} {n : Nat} {rf : Int32 → Int32 → Mm → Option (Bool × Mm)} {dr : Nat} (hdr : 47 ≤ dr) (hrf : ∀ (x1 : Int32) (x2 : Int32)  (h : Mm) (r : Bool) (h2 : Mm), rf x1 x2 h = some (r, h2) → Sat X yX3_takeInnerUnit cX3_takeInnerUnit 3 (some .boolean) dr [.ref (xa X 7), .int x1, .int x2] true o h (some (.int (b2i r))) h2) {rv : Bool} {hz : Mm} : ∀ (f : Nat) (x1 : Int32) (x3 : Int32) (h : Mm), X3_takeCondition_13 n rf f x1 x3 h = some (rv, hz) → V X G RX3 cX3_takeCondition 4 (some .boolean) (dr + 3) 0 0 (QR X G true o (some (.int (b2i rv))) hz) true o 13 [(0, .ref (xa X 7)), (1, .int x1), (3, .int x3)] [] h := by
  intro f
  induction f with
  | zero => intro x1 x3 h hF; exact nomatch (show (none : Option (Bool × Mm)) = some (rv, hz) from hF)
  | succ f ih =>
    intro x1 x3 h hF
    unfold X3_takeCondition_13 at hF
    refine V.iload_n 2 dX3_takeCondition_13 rfl rfl ?_
    refine V.sipush (v := 240) dX3_takeCondition_14 (by decide) ?_
    refine V.icmp_ge (tgt := 55) dX3_takeCondition_17 rfl (fun c => ?_) (fun c => ?_)
    · replace hF := ip c hF
      refine V.iconst (v := 1) dX3_takeCondition_55 rfl ?_
      cases hF
      exact V.bret dX3_takeCondition_56
    · replace hF := iq c hF
      refine V.aload_n 0 dX3_takeCondition_20 rfl rfl ?_
      refine V.getR (v := 1) fl_X3_17 sh_7 rfl fx_7_0 (by decide) dX3_takeCondition_21 ?_
      refine V.bipush (v := 124) dX3_takeCondition_24 (by decide) ?_
      obtain ⟨r25, h27, hc26, hF⟩ := bd_s hF
      refine V.callVi mf_X7_take ml_X3_37 sh_1 (s_X7_take hc26) (by omega) rfl rfl (Nat.le_of_ble_eq_true rfl) dX3_takeCondition_26 ?_
      refine V.ifz_eq (tgt := 55) dX3_takeCondition_29 rfl (fun c => ?_) (fun c => ?_)
      · replace hF := iq c hF
        refine V.iconst (v := 1) dX3_takeCondition_55 rfl ?_
        cases hF
        exact V.bret dX3_takeCondition_56
      · replace hF := ip c hF
        refine V.aload_n 0 dX3_takeCondition_32 rfl rfl ?_
        refine V.iload_n 1 dX3_takeCondition_33 rfl rfl ?_
        refine V.iconst (v := 0) dX3_takeCondition_34 rfl ?_
        obtain ⟨r28, h30, hc29, hF⟩ := bd_s hF
        refine V.callVi mf_X3_takeTruth ml_X3_71 sh_7 (s_X3_takeTruth hdr hrf hc29) (by omega) rfl rfl (Nat.le_of_ble_eq_true rfl) dX3_takeCondition_35 ?_
        refine V.ifz_ne (tgt := 43) dX3_takeCondition_38 rfl (fun c => ?_) (fun c => ?_)
        · replace hF := ip c hF
          refine V.aload_n 0 dX3_takeCondition_43 rfl rfl ?_
          refine V.bipush (v := -15) dX3_takeCondition_44 (by decide) ?_
          obtain ⟨r31, h33, hc32, hF⟩ := bd_s hF
          refine V.callVv mf_X3_order ml_X3_59 sh_7 (s_X3_order hc32) (by omega) rfl rfl (Nat.le_of_ble_eq_true rfl) dX3_takeCondition_46 ?_
          refine V.iinc (v := (x3 + (1))) 2 [(3, _), (0, _), (1, _)] dX3_takeCondition_49 rfl rfl (by decide) rfl ?_
          refine V.goto (tgt := 13) dX3_takeCondition_52 rfl ?_
          exact V.sub [1, 2, 0] rfl (ih _ _ _ hF)
        · replace hF := iq c hF
          refine V.iconst (v := 0) dX3_takeCondition_41 rfl ?_
          cases hF
          exact V.bret dX3_takeCondition_42
def X3_takeCondition (n : Nat) (rf : Int32 → Int32 → Mm → Option (Bool × Mm)) (x1 : Int32) (x2 : Bool) (h : Mm) : Option (Bool × Mm) := (bd (X3_takeTruth n rf x1 x2 h) (fun r34 h36 => (if r34 = true then (X3_takeCondition_13 n rf n x1 (0 : Int32) h36) else (some (false, h36)))))
set_option maxRecDepth 100000 in
set_option maxHeartbeats 4000000 in
theorem s_X3_takeCondition {X : WX} {o : Mm} {n : Nat} {rf : Int32 → Int32 → Mm → Option (Bool × Mm)} {dr : Nat} (hdr : 47 ≤ dr) (hrf : ∀ (x1 : Int32) (x2 : Int32)  (h : Mm) (r : Bool) (h2 : Mm), rf x1 x2 h = some (r, h2) → Sat X yX3_takeInnerUnit cX3_takeInnerUnit 3 (some .boolean) dr [.ref (xa X 7), .int x1, .int x2] true o h (some (.int (b2i r))) h2) {x1 : Int32} {x2 : Bool} {rv : Bool} {hz : Mm} {h : Mm} (hF : X3_takeCondition n rf x1 x2 h = some (rv, hz)) : Sat X yX3_takeCondition cX3_takeCondition 4 (some .boolean) (dr + 3) [.ref (xa X 7), .int x1, .int (b2i x2)] true o h (some (.int (b2i rv))) hz := by
  unfold X3_takeCondition at hF
  refine Sat.mk (own := RX3) rfl (by decide +kernel) (Nat.le_of_ble_eq_true rfl) (fun G => ?_)
  refine V.sub (lv2 := [(0, _), (1, _), (2, _)]) [0, 1, 2] rfl ?_
  refine V.aload_n 0 dX3_takeCondition_0 rfl rfl ?_
  refine V.iload_n 1 dX3_takeCondition_1 rfl rfl ?_
  refine V.iload_n 2 dX3_takeCondition_2 rfl rfl ?_
  obtain ⟨r34, h36, hc35, hF⟩ := bd_s hF
  refine V.callVi mf_X3_takeTruth ml_X3_71 sh_7 (s_X3_takeTruth hdr hrf hc35) (by omega) rfl rfl (Nat.le_of_ble_eq_true rfl) dX3_takeCondition_3 ?_
  refine V.ifz_ne (tgt := 11) dX3_takeCondition_6 rfl (fun c => ?_) (fun c => ?_)
  · replace hF := ip c hF
    refine V.iconst (v := 0) dX3_takeCondition_11 rfl ?_
    refine V.istore_n [(3, _), (0, _), (1, _), (2, _)] dX3_takeCondition_12 rfl (by decide) rfl ?_
    exact V.sub [1, 2, 0] rfl (v_X3_takeCondition_13 hdr hrf n _ _ _ hF)
  · replace hF := iq c hF
    refine V.iconst (v := 0) dX3_takeCondition_9 rfl ?_
    cases hF
    exact V.bret dX3_takeCondition_10
/-! MonsterCot$LawText.takeInnerUnit -/
theorem dX3_takeInnerUnit_0 : decode cX3_takeInnerUnit 0 = .ok (.iload_n 2, 1) := by decide +kernel
theorem dX3_takeInnerUnit_1 : decode cX3_takeInnerUnit 1 = .ok (.bipush 6, 2) := by decide +kernel
theorem dX3_takeInnerUnit_3 : decode cX3_takeInnerUnit 3 = .ok (.if_icmp .lt 5, 3) := by decide +kernel
theorem dX3_takeInnerUnit_6 : decode cX3_takeInnerUnit 6 = .ok (.iconst 0, 1) := by decide +kernel
theorem dX3_takeInnerUnit_7 : decode cX3_takeInnerUnit 7 = .ok (.ireturn, 1) := by decide +kernel
theorem dX3_takeInnerUnit_8 : decode cX3_takeInnerUnit 8 = .ok (.aload_n 0, 1) := by decide +kernel
theorem dX3_takeInnerUnit_9 : decode cX3_takeInnerUnit 9 = .ok (.getfield 17, 3) := by decide +kernel
theorem dX3_takeInnerUnit_12 : decode cX3_takeInnerUnit 12 = .ok (.dup, 1) := by decide +kernel
theorem dX3_takeInnerUnit_13 : decode cX3_takeInnerUnit 13 = .ok (.getfield 21, 3) := by decide +kernel
theorem dX3_takeInnerUnit_16 : decode cX3_takeInnerUnit 16 = .ok (.iconst 1, 1) := by decide +kernel
theorem dX3_takeInnerUnit_17 : decode cX3_takeInnerUnit 17 = .ok (.iadd, 1) := by decide +kernel
theorem dX3_takeInnerUnit_18 : decode cX3_takeInnerUnit 18 = .ok (.putfield 21, 3) := by decide +kernel
theorem dX3_takeInnerUnit_21 : decode cX3_takeInnerUnit 21 = .ok (.iload_n 1, 1) := by decide +kernel
theorem dX3_takeInnerUnit_22 : decode cX3_takeInnerUnit 22 = .ok (.bipush 40, 2) := by decide +kernel
theorem dX3_takeInnerUnit_24 : decode cX3_takeInnerUnit 24 = .ok (.if_icmp .ne 32, 3) := by decide +kernel
theorem dX3_takeInnerUnit_27 : decode cX3_takeInnerUnit 27 = .ok (.aload_n 0, 1) := by decide +kernel
theorem dX3_takeInnerUnit_28 : decode cX3_takeInnerUnit 28 = .ok (.iload_n 2, 1) := by decide +kernel
theorem dX3_takeInnerUnit_29 : decode cX3_takeInnerUnit 29 = .ok (.iconst 1, 1) := by decide +kernel
theorem dX3_takeInnerUnit_30 : decode cX3_takeInnerUnit 30 = .ok (.iadd, 1) := by decide +kernel
theorem dX3_takeInnerUnit_31 : decode cX3_takeInnerUnit 31 = .ok (.iconst 0, 1) := by decide +kernel
theorem dX3_takeInnerUnit_32 : decode cX3_takeInnerUnit 32 = .ok (.invokevirtual 63, 3) := by decide +kernel
theorem dX3_takeInnerUnit_35 : decode cX3_takeInnerUnit 35 = .ok (.ifCond .eq 19, 3) := by decide +kernel
theorem dX3_takeInnerUnit_38 : decode cX3_takeInnerUnit 38 = .ok (.aload_n 0, 1) := by decide +kernel
theorem dX3_takeInnerUnit_39 : decode cX3_takeInnerUnit 39 = .ok (.getfield 17, 3) := by decide +kernel
theorem dX3_takeInnerUnit_42 : decode cX3_takeInnerUnit 42 = .ok (.bipush 41, 2) := by decide +kernel
theorem dX3_takeInnerUnit_44 : decode cX3_takeInnerUnit 44 = .ok (.invokevirtual 37, 3) := by decide +kernel
theorem dX3_takeInnerUnit_47 : decode cX3_takeInnerUnit 47 = .ok (.ifCond .eq 7, 3) := by decide +kernel
theorem dX3_takeInnerUnit_50 : decode cX3_takeInnerUnit 50 = .ok (.iconst 1, 1) := by decide +kernel
theorem dX3_takeInnerUnit_51 : decode cX3_takeInnerUnit 51 = .ok (.goto 4, 3) := by decide +kernel
theorem dX3_takeInnerUnit_54 : decode cX3_takeInnerUnit 54 = .ok (.iconst 0, 1) := by decide +kernel
theorem dX3_takeInnerUnit_55 : decode cX3_takeInnerUnit 55 = .ok (.ireturn, 1) := by decide +kernel
theorem dX3_takeInnerUnit_56 : decode cX3_takeInnerUnit 56 = .ok (.aload_n 0, 1) := by decide +kernel
theorem dX3_takeInnerUnit_57 : decode cX3_takeInnerUnit 57 = .ok (.iload_n 2, 1) := by decide +kernel
theorem dX3_takeInnerUnit_58 : decode cX3_takeInnerUnit 58 = .ok (.iconst 1, 1) := by decide +kernel
theorem dX3_takeInnerUnit_59 : decode cX3_takeInnerUnit 59 = .ok (.iadd, 1) := by decide +kernel
theorem dX3_takeInnerUnit_60 : decode cX3_takeInnerUnit 60 = .ok (.iconst 0, 1) := by decide +kernel
theorem dX3_takeInnerUnit_61 : decode cX3_takeInnerUnit 61 = .ok (.invokevirtual 74, 3) := by decide +kernel
theorem dX3_takeInnerUnit_64 : decode cX3_takeInnerUnit 64 = .ok (.ifCond .ne 5, 3) := by decide +kernel
theorem dX3_takeInnerUnit_67 : decode cX3_takeInnerUnit 67 = .ok (.iconst 0, 1) := by decide +kernel
theorem dX3_takeInnerUnit_68 : decode cX3_takeInnerUnit 68 = .ok (.ireturn, 1) := by decide +kernel
theorem dX3_takeInnerUnit_69 : decode cX3_takeInnerUnit 69 = .ok (.aload_n 0, 1) := by decide +kernel
theorem dX3_takeInnerUnit_70 : decode cX3_takeInnerUnit 70 = .ok (.bipush (-16), 2) := by decide +kernel
theorem dX3_takeInnerUnit_72 : decode cX3_takeInnerUnit 72 = .ok (.invokevirtual 59, 3) := by decide +kernel
theorem dX3_takeInnerUnit_75 : decode cX3_takeInnerUnit 75 = .ok (.iconst 1, 1) := by decide +kernel
theorem dX3_takeInnerUnit_76 : decode cX3_takeInnerUnit 76 = .ok (.ireturn, 1) := by decide +kernel
def X3_takeInnerUnit_b (n : Nat) (rf : Int32 → Int32 → Mm → Option (Bool × Mm)) (x1 : Int32) (x2 : Int32) (h : Mm) : Option (Bool × Mm) := (if x2 < (6 : Int32) then (if x1 = (40 : Int32) then (bd (X3_takeCondition n rf (x2 + (1 : Int32)) false (wI h 1 2 ((h.1 1 2) + (1 : Int32)))) (fun r19 h21 => (if r19 = true then (bd (X7_take n (41 : Int32) h21) (fun r22 h24 => (if r22 = true then (some (true, h24)) else (some (false, h24))))) else (some (false, h21))))) else (bd (X3_takeUnit n rf (x2 + (1 : Int32)) false (wI h 1 2 ((h.1 1 2) + (1 : Int32)))) (fun r13 h15 => (if r13 = true then (bd (X3_order (-16 : Int32) h15) (fun _ h18 => (some (true, h18)))) else (some (false, h15)))))) else (some (false, h)))
set_option maxRecDepth 100000 in
set_option maxHeartbeats 4000000 in
theorem s_X3_takeInnerUnit_b {X : WX} {o : Mm} {n : Nat} {rf : Int32 → Int32 → Mm → Option (Bool × Mm)} {dr : Nat} (hdr : 47 ≤ dr) (hrf : ∀ (x1 : Int32) (x2 : Int32)  (h : Mm) (r : Bool) (h2 : Mm), rf x1 x2 h = some (r, h2) → Sat X yX3_takeInnerUnit cX3_takeInnerUnit 3 (some .boolean) dr [.ref (xa X 7), .int x1, .int x2] true o h (some (.int (b2i r))) h2) {DD : Nat} (hDD : dr + 4 ≤ DD) {x1 : Int32} {x2 : Int32} {rv : Bool} {hz : Mm} {h : Mm} (hF : X3_takeInnerUnit_b n rf x1 x2 h = some (rv, hz)) : Sat X yX3_takeInnerUnit cX3_takeInnerUnit 3 (some .boolean) DD [.ref (xa X 7), .int x1, .int x2] true o h (some (.int (b2i rv))) hz := by
  unfold X3_takeInnerUnit_b at hF
  refine Sat.mk (own := RX3) rfl (by decide +kernel) (Nat.le_of_ble_eq_true rfl) (fun G => ?_)
  refine V.sub (lv2 := [(0, _), (1, _), (2, _)]) [0, 1, 2] rfl ?_
  refine V.iload_n 2 dX3_takeInnerUnit_0 rfl rfl ?_
  refine V.bipush (v := 6) dX3_takeInnerUnit_1 (by decide) ?_
  refine V.icmp_lt (tgt := 8) dX3_takeInnerUnit_3 rfl (fun c => ?_) (fun c => ?_)
  · replace hF := ip c hF
    refine V.aload_n 0 dX3_takeInnerUnit_8 rfl rfl ?_
    refine V.getR (v := 1) fl_X3_17 sh_7 rfl fx_7_0 (by decide) dX3_takeInnerUnit_9 ?_
    refine V.dup dX3_takeInnerUnit_12 rfl ?_
    refine V.getI fl_X3_21 sh_1 rfl km_1 dX3_takeInnerUnit_13 ?_
    refine V.iconst (v := 1) dX3_takeInnerUnit_16 rfl ?_
    refine V.iadd dX3_takeInnerUnit_17 ?_
    refine V.putI fl_X3_21 rfl (tyX7_ok 2 (by decide)) rfl rfl sh_1 rfl km_1 dX3_takeInnerUnit_18 ?_
    refine V.iload_n 1 dX3_takeInnerUnit_21 rfl rfl ?_
    refine V.bipush (v := 40) dX3_takeInnerUnit_22 (by decide) ?_
    refine V.icmp_ne (tgt := 56) dX3_takeInnerUnit_24 rfl (fun c => ?_) (fun c => ?_)
    · replace hF := iq c hF
      refine V.aload_n 0 dX3_takeInnerUnit_56 rfl rfl ?_
      refine V.iload_n 2 dX3_takeInnerUnit_57 rfl rfl ?_
      refine V.iconst (v := 1) dX3_takeInnerUnit_58 rfl ?_
      refine V.iadd dX3_takeInnerUnit_59 ?_
      refine V.iconst (v := 0) dX3_takeInnerUnit_60 rfl ?_
      obtain ⟨r13, h15, hc14, hF⟩ := bd_s hF
      refine V.callVi mf_X3_takeUnit ml_X3_74 sh_7 (s_X3_takeUnit hdr hrf hc14) (by omega) rfl rfl (Nat.le_of_ble_eq_true rfl) dX3_takeInnerUnit_61 ?_
      refine V.ifz_ne (tgt := 69) dX3_takeInnerUnit_64 rfl (fun c => ?_) (fun c => ?_)
      · replace hF := ip c hF
        refine V.aload_n 0 dX3_takeInnerUnit_69 rfl rfl ?_
        refine V.bipush (v := -16) dX3_takeInnerUnit_70 (by decide) ?_
        obtain ⟨r16, h18, hc17, hF⟩ := bd_s hF
        refine V.callVv mf_X3_order ml_X3_59 sh_7 (s_X3_order hc17) (by omega) rfl rfl (Nat.le_of_ble_eq_true rfl) dX3_takeInnerUnit_72 ?_
        refine V.iconst (v := 1) dX3_takeInnerUnit_75 rfl ?_
        cases hF
        exact V.bret dX3_takeInnerUnit_76
      · replace hF := iq c hF
        refine V.iconst (v := 0) dX3_takeInnerUnit_67 rfl ?_
        cases hF
        exact V.bret dX3_takeInnerUnit_68
    · replace hF := ip c hF
      refine V.aload_n 0 dX3_takeInnerUnit_27 rfl rfl ?_
      refine V.iload_n 2 dX3_takeInnerUnit_28 rfl rfl ?_
      refine V.iconst (v := 1) dX3_takeInnerUnit_29 rfl ?_
      refine V.iadd dX3_takeInnerUnit_30 ?_
      refine V.iconst (v := 0) dX3_takeInnerUnit_31 rfl ?_
      obtain ⟨r19, h21, hc20, hF⟩ := bd_s hF
      refine V.callVi mf_X3_takeCondition ml_X3_63 sh_7 (s_X3_takeCondition hdr hrf hc20) (by omega) rfl rfl (Nat.le_of_ble_eq_true rfl) dX3_takeInnerUnit_32 ?_
      refine V.ifz_eq (tgt := 54) dX3_takeInnerUnit_35 rfl (fun c => ?_) (fun c => ?_)
      · replace hF := iq c hF
        refine V.iconst (v := 0) dX3_takeInnerUnit_54 rfl ?_
        cases hF
        exact V.bret dX3_takeInnerUnit_55
      · replace hF := ip c hF
        refine V.aload_n 0 dX3_takeInnerUnit_38 rfl rfl ?_
        refine V.getR (v := 1) fl_X3_17 sh_7 rfl fx_7_0 (by decide) dX3_takeInnerUnit_39 ?_
        refine V.bipush (v := 41) dX3_takeInnerUnit_42 (by decide) ?_
        obtain ⟨r22, h24, hc23, hF⟩ := bd_s hF
        refine V.callVi mf_X7_take ml_X3_37 sh_1 (s_X7_take hc23) (by omega) rfl rfl (Nat.le_of_ble_eq_true rfl) dX3_takeInnerUnit_44 ?_
        refine V.ifz_eq (tgt := 54) dX3_takeInnerUnit_47 rfl (fun c => ?_) (fun c => ?_)
        · replace hF := iq c hF
          refine V.iconst (v := 0) dX3_takeInnerUnit_54 rfl ?_
          cases hF
          exact V.bret dX3_takeInnerUnit_55
        · replace hF := ip c hF
          refine V.iconst (v := 1) dX3_takeInnerUnit_50 rfl ?_
          refine V.goto (tgt := 55) dX3_takeInnerUnit_51 rfl ?_
          cases hF
          exact V.bret dX3_takeInnerUnit_55
  · replace hF := iq c hF
    refine V.iconst (v := 0) dX3_takeInnerUnit_6 rfl ?_
    cases hF
    exact V.bret dX3_takeInnerUnit_7
def X3_takeInnerUnit (n : Nat) : Nat → Int32 → Int32 → Mm → Option (Bool × Mm)
  | 0, _, _, _ => none
  | e + 1, x1, x2, h => X3_takeInnerUnit_b n (X3_takeInnerUnit n e) x1 x2 h
set_option maxRecDepth 100000 in
set_option maxHeartbeats 4000000 in
theorem s_X3_takeInnerUnit {X : WX} {o : Mm} {n : Nat} : ∀ (e : Nat) (x1 : Int32) (x2 : Int32) (h : Mm) (rv : Bool) (hz : Mm), X3_takeInnerUnit n e x1 x2 h = some (rv, hz) → Sat X yX3_takeInnerUnit cX3_takeInnerUnit 3 (some .boolean) (47 + 5 * e) [.ref (xa X 7), .int x1, .int x2] true o h (some (.int (b2i rv))) hz := by
  intro e
  induction e with
  | zero => intro x1 x2 h rv hz hF; exact nomatch (show (none : Option (Bool × Mm)) = some (rv, hz) from hF)
  | succ e ih => intro x1 x2 h rv hz hF; exact s_X3_takeInnerUnit_b (dr := 47 + 5 * e) (by omega) ih (by omega)  hF
/-! MonsterCot$LawText.takeClause -/
theorem dX3_takeClause_0 : decode cX3_takeClause 0 = .ok (.aload_n 0, 1) := by decide +kernel
theorem dX3_takeClause_1 : decode cX3_takeClause 1 = .ok (.getfield 17, 3) := by decide +kernel
theorem dX3_takeClause_4 : decode cX3_takeClause 4 = .ok (.bipush 121, 2) := by decide +kernel
theorem dX3_takeClause_6 : decode cX3_takeClause 6 = .ok (.invokevirtual 37, 3) := by decide +kernel
theorem dX3_takeClause_9 : decode cX3_takeClause 9 = .ok (.ifCond .eq 15, 3) := by decide +kernel
theorem dX3_takeClause_12 : decode cX3_takeClause 12 = .ok (.aload_n 0, 1) := by decide +kernel
theorem dX3_takeClause_13 : decode cX3_takeClause 13 = .ok (.getfield 17, 3) := by decide +kernel
theorem dX3_takeClause_16 : decode cX3_takeClause 16 = .ok (.bipush 58, 2) := by decide +kernel
theorem dX3_takeClause_18 : decode cX3_takeClause 18 = .ok (.invokevirtual 37, 3) := by decide +kernel
theorem dX3_takeClause_21 : decode cX3_takeClause 21 = .ok (.ifCond .ne 5, 3) := by decide +kernel
theorem dX3_takeClause_24 : decode cX3_takeClause 24 = .ok (.iconst 0, 1) := by decide +kernel
theorem dX3_takeClause_25 : decode cX3_takeClause 25 = .ok (.ireturn, 1) := by decide +kernel
theorem dX3_takeClause_26 : decode cX3_takeClause 26 = .ok (.ldc 41, 2) := by decide +kernel
theorem dX3_takeClause_28 : decode cX3_takeClause 28 = .ok (.aload_n 0, 1) := by decide +kernel
theorem dX3_takeClause_29 : decode cX3_takeClause 29 = .ok (.getfield 17, 3) := by decide +kernel
theorem dX3_takeClause_32 : decode cX3_takeClause 32 = .ok (.invokevirtual 43, 3) := by decide +kernel
theorem dX3_takeClause_35 : decode cX3_takeClause 35 = .ok (.invokevirtual 47, 3) := by decide +kernel
theorem dX3_takeClause_38 : decode cX3_takeClause 38 = .ok (.ifCond .ge 7, 3) := by decide +kernel
theorem dX3_takeClause_41 : decode cX3_takeClause 41 = .ok (.iconst 1, 1) := by decide +kernel
theorem dX3_takeClause_42 : decode cX3_takeClause 42 = .ok (.goto 4, 3) := by decide +kernel
theorem dX3_takeClause_45 : decode cX3_takeClause 45 = .ok (.iconst 0, 1) := by decide +kernel
theorem dX3_takeClause_46 : decode cX3_takeClause 46 = .ok (.istore_n 1, 1) := by decide +kernel
theorem dX3_takeClause_47 : decode cX3_takeClause 47 = .ok (.iload_n 1, 1) := by decide +kernel
theorem dX3_takeClause_48 : decode cX3_takeClause 48 = .ok (.ifCond .eq 13, 3) := by decide +kernel
theorem dX3_takeClause_51 : decode cX3_takeClause 51 = .ok (.aload_n 0, 1) := by decide +kernel
theorem dX3_takeClause_52 : decode cX3_takeClause 52 = .ok (.iconst 0, 1) := by decide +kernel
theorem dX3_takeClause_53 : decode cX3_takeClause 53 = .ok (.invokevirtual 53, 3) := by decide +kernel
theorem dX3_takeClause_56 : decode cX3_takeClause 56 = .ok (.ifCond .ne 5, 3) := by decide +kernel
theorem dX3_takeClause_59 : decode cX3_takeClause 59 = .ok (.iconst 0, 1) := by decide +kernel
theorem dX3_takeClause_60 : decode cX3_takeClause 60 = .ok (.ireturn, 1) := by decide +kernel
theorem dX3_takeClause_61 : decode cX3_takeClause 61 = .ok (.iload_n 1, 1) := by decide +kernel
theorem dX3_takeClause_62 : decode cX3_takeClause 62 = .ok (.ifCond .eq 26, 3) := by decide +kernel
theorem dX3_takeClause_65 : decode cX3_takeClause 65 = .ok (.ldc 57, 2) := by decide +kernel
theorem dX3_takeClause_67 : decode cX3_takeClause 67 = .ok (.aload_n 0, 1) := by decide +kernel
theorem dX3_takeClause_68 : decode cX3_takeClause 68 = .ok (.getfield 17, 3) := by decide +kernel
theorem dX3_takeClause_71 : decode cX3_takeClause 71 = .ok (.invokevirtual 43, 3) := by decide +kernel
theorem dX3_takeClause_74 : decode cX3_takeClause 74 = .ok (.invokevirtual 47, 3) := by decide +kernel
theorem dX3_takeClause_77 : decode cX3_takeClause 77 = .ok (.ifCond .ge 11, 3) := by decide +kernel
theorem dX3_takeClause_80 : decode cX3_takeClause 80 = .ok (.aload_n 0, 1) := by decide +kernel
theorem dX3_takeClause_81 : decode cX3_takeClause 81 = .ok (.bipush (-17), 2) := by decide +kernel
theorem dX3_takeClause_83 : decode cX3_takeClause 83 = .ok (.invokevirtual 59, 3) := by decide +kernel
theorem dX3_takeClause_86 : decode cX3_takeClause 86 = .ok (.iconst 1, 1) := by decide +kernel
theorem dX3_takeClause_87 : decode cX3_takeClause 87 = .ok (.ireturn, 1) := by decide +kernel
theorem dX3_takeClause_88 : decode cX3_takeClause 88 = .ok (.aload_n 0, 1) := by decide +kernel
theorem dX3_takeClause_89 : decode cX3_takeClause 89 = .ok (.iconst 0, 1) := by decide +kernel
theorem dX3_takeClause_90 : decode cX3_takeClause 90 = .ok (.iload_n 1, 1) := by decide +kernel
theorem dX3_takeClause_91 : decode cX3_takeClause 91 = .ok (.invokevirtual 63, 3) := by decide +kernel
theorem dX3_takeClause_94 : decode cX3_takeClause 94 = .ok (.ifCond .eq 15, 3) := by decide +kernel
theorem dX3_takeClause_97 : decode cX3_takeClause 97 = .ok (.aload_n 0, 1) := by decide +kernel
theorem dX3_takeClause_98 : decode cX3_takeClause 98 = .ok (.getfield 17, 3) := by decide +kernel
theorem dX3_takeClause_101 : decode cX3_takeClause 101 = .ok (.bipush 63, 2) := by decide +kernel
theorem dX3_takeClause_103 : decode cX3_takeClause 103 = .ok (.invokevirtual 37, 3) := by decide +kernel
theorem dX3_takeClause_106 : decode cX3_takeClause 106 = .ok (.ifCond .ne 5, 3) := by decide +kernel
theorem dX3_takeClause_109 : decode cX3_takeClause 109 = .ok (.iconst 0, 1) := by decide +kernel
theorem dX3_takeClause_110 : decode cX3_takeClause 110 = .ok (.ireturn, 1) := by decide +kernel
theorem dX3_takeClause_111 : decode cX3_takeClause 111 = .ok (.aload_n 0, 1) := by decide +kernel
theorem dX3_takeClause_112 : decode cX3_takeClause 112 = .ok (.getfield 27, 3) := by decide +kernel
theorem dX3_takeClause_115 : decode cX3_takeClause 115 = .ok (.istore_n 2, 1) := by decide +kernel
theorem dX3_takeClause_116 : decode cX3_takeClause 116 = .ok (.aload_n 0, 1) := by decide +kernel
theorem dX3_takeClause_117 : decode cX3_takeClause 117 = .ok (.bipush (-100), 2) := by decide +kernel
theorem dX3_takeClause_119 : decode cX3_takeClause 119 = .ok (.invokevirtual 59, 3) := by decide +kernel
theorem dX3_takeClause_122 : decode cX3_takeClause 122 = .ok (.aload_n 0, 1) := by decide +kernel
theorem dX3_takeClause_123 : decode cX3_takeClause 123 = .ok (.iconst 0, 1) := by decide +kernel
theorem dX3_takeClause_124 : decode cX3_takeClause 124 = .ok (.invokevirtual 53, 3) := by decide +kernel
theorem dX3_takeClause_127 : decode cX3_takeClause 127 = .ok (.ifCond .ne 5, 3) := by decide +kernel
theorem dX3_takeClause_130 : decode cX3_takeClause 130 = .ok (.iconst 0, 1) := by decide +kernel
theorem dX3_takeClause_131 : decode cX3_takeClause 131 = .ok (.ireturn, 1) := by decide +kernel
theorem dX3_takeClause_132 : decode cX3_takeClause 132 = .ok (.aload_n 0, 1) := by decide +kernel
theorem dX3_takeClause_133 : decode cX3_takeClause 133 = .ok (.bipush (-17), 2) := by decide +kernel
theorem dX3_takeClause_135 : decode cX3_takeClause 135 = .ok (.invokevirtual 59, 3) := by decide +kernel
theorem dX3_takeClause_138 : decode cX3_takeClause 138 = .ok (.aload_n 0, 1) := by decide +kernel
theorem dX3_takeClause_139 : decode cX3_takeClause 139 = .ok (.getfield 11, 3) := by decide +kernel
theorem dX3_takeClause_142 : decode cX3_takeClause 142 = .ok (.iload_n 2, 1) := by decide +kernel
theorem dX3_takeClause_143 : decode cX3_takeClause 143 = .ok (.bipush (-100), 2) := by decide +kernel
theorem dX3_takeClause_145 : decode cX3_takeClause 145 = .ok (.aload_n 0, 1) := by decide +kernel
theorem dX3_takeClause_146 : decode cX3_takeClause 146 = .ok (.getfield 27, 3) := by decide +kernel
theorem dX3_takeClause_149 : decode cX3_takeClause 149 = .ok (.isub, 1) := by decide +kernel
theorem dX3_takeClause_150 : decode cX3_takeClause 150 = .ok (.invokestatic 67, 3) := by decide +kernel
theorem dX3_takeClause_153 : decode cX3_takeClause 153 = .ok (.iconst 1, 1) := by decide +kernel
theorem dX3_takeClause_154 : decode cX3_takeClause 154 = .ok (.ireturn, 1) := by decide +kernel
def X3_takeClause_88 (n : Nat) (x1 : Bool) (h : Mm) : Option (Bool × Mm) := (bd (X3_takeCondition n (X3_takeInnerUnit n 9) (0 : Int32) x1 h) (fun r77 h79 => (if r77 = true then (bd (X7_take n (63 : Int32) h79) (fun r80 h82 => (if r80 = true then (bd (X3_order (-100 : Int32) h82) (fun _ h85 => (bd (X3_takeSum n (X3_takeAtom n 9) (0 : Int32) h85) (fun r86 h88 => (if r86 = true then (bd (X3_order (-17 : Int32) h88) (fun _ h91 => (bd (X11_put 8 (h82.1 7 2) ((-100 : Int32) - (h91.1 7 2)) h91) (fun _ h94 => (some (true, h94)))))) else (some (false, h88))))))) else (some (false, h82))))) else (some (false, h79)))))
set_option maxRecDepth 100000 in
set_option maxHeartbeats 4000000 in
theorem v_X3_takeClause_88 {X : WX} {G : GX} {o : Mm} {n : Nat} {rv : Bool} {hz : Mm} {x1 : Bool} {h : Mm} (hF : X3_takeClause_88 n x1 h = some (rv, hz)) : V X G RX3 cX3_takeClause 3 (some .boolean) 96 0 0 (QR X G true o (some (.int (b2i rv))) hz) true o 88 [(0, .ref (xa X 7)), (1, .int (b2i x1))] [] h := by
  unfold X3_takeClause_88 at hF
  refine V.aload_n 0 dX3_takeClause_88 rfl rfl ?_
  refine V.iconst (v := 0) dX3_takeClause_89 rfl ?_
  refine V.iload_n 1 dX3_takeClause_90 rfl rfl ?_
  obtain ⟨r77, h79, hc78, hF⟩ := bd_s hF
  refine V.callVi mf_X3_takeCondition ml_X3_63 sh_7 (s_X3_takeCondition (dr := 92) (by decide) (s_X3_takeInnerUnit 9) hc78) (by decide) rfl rfl (Nat.le_of_ble_eq_true rfl) dX3_takeClause_91 ?_
  refine V.ifz_eq (tgt := 109) dX3_takeClause_94 rfl (fun c => ?_) (fun c => ?_)
  · replace hF := iq c hF
    refine V.iconst (v := 0) dX3_takeClause_109 rfl ?_
    cases hF
    exact V.bret dX3_takeClause_110
  · replace hF := ip c hF
    refine V.aload_n 0 dX3_takeClause_97 rfl rfl ?_
    refine V.getR (v := 1) fl_X3_17 sh_7 rfl fx_7_0 (by decide) dX3_takeClause_98 ?_
    refine V.bipush (v := 63) dX3_takeClause_101 (by decide) ?_
    obtain ⟨r80, h82, hc81, hF⟩ := bd_s hF
    refine V.callVi mf_X7_take ml_X3_37 sh_1 (s_X7_take hc81) (by decide) rfl rfl (Nat.le_of_ble_eq_true rfl) dX3_takeClause_103 ?_
    refine V.ifz_ne (tgt := 111) dX3_takeClause_106 rfl (fun c => ?_) (fun c => ?_)
    · replace hF := ip c hF
      refine V.aload_n 0 dX3_takeClause_111 rfl rfl ?_
      refine V.getI fl_X3_27 sh_7 rfl km_7 dX3_takeClause_112 ?_
      refine V.istore_n [(2, _), (0, _), (1, _)] dX3_takeClause_115 rfl (by decide) rfl ?_
      refine V.aload_n 1 dX3_takeClause_116 rfl rfl ?_
      refine V.bipush (v := -100) dX3_takeClause_117 (by decide) ?_
      obtain ⟨r83, h85, hc84, hF⟩ := bd_s hF
      refine V.callVv mf_X3_order ml_X3_59 sh_7 (s_X3_order hc84) (by decide) rfl rfl (Nat.le_of_ble_eq_true rfl) dX3_takeClause_119 ?_
      refine V.aload_n 1 dX3_takeClause_122 rfl rfl ?_
      refine V.iconst (v := 0) dX3_takeClause_123 rfl ?_
      obtain ⟨r86, h88, hc87, hF⟩ := bd_s hF
      refine V.callVi mf_X3_takeSum ml_X3_53 sh_7 (s_X3_takeSum (dr := 43) (by decide) (s_X3_takeAtom 9) hc87) (by decide) rfl rfl (Nat.le_of_ble_eq_true rfl) dX3_takeClause_124 ?_
      refine V.ifz_ne (tgt := 132) dX3_takeClause_127 rfl (fun c => ?_) (fun c => ?_)
      · replace hF := ip c hF
        refine V.aload_n 1 dX3_takeClause_132 rfl rfl ?_
        refine V.bipush (v := -17) dX3_takeClause_133 (by decide) ?_
        obtain ⟨r89, h91, hc90, hF⟩ := bd_s hF
        refine V.callVv mf_X3_order ml_X3_59 sh_7 (s_X3_order hc90) (by decide) rfl rfl (Nat.le_of_ble_eq_true rfl) dX3_takeClause_135 ?_
        refine V.aload_n 1 dX3_takeClause_138 rfl rfl ?_
        refine V.getR (v := 8) fl_X3_11 sh_7 rfl fx_7_1 (by decide) dX3_takeClause_139 ?_
        refine V.iload_n 0 dX3_takeClause_142 rfl rfl ?_
        refine V.bipush (v := -100) dX3_takeClause_143 (by decide) ?_
        refine V.aload_n 1 dX3_takeClause_145 rfl rfl ?_
        refine V.getI fl_X3_27 sh_7 rfl km_7 dX3_takeClause_146 ?_
        refine V.isub dX3_takeClause_149 ?_
        obtain ⟨r92, h94, hc93, hF⟩ := bd_s hF
        refine V.callNv mf_X11_put ml_X3_67 (s_X11_put io_8 hc93) (by decide) rfl rfl (Nat.le_of_ble_eq_true rfl) dX3_takeClause_150 ?_
        refine V.iconst (v := 1) dX3_takeClause_153 rfl ?_
        cases hF
        exact V.bret dX3_takeClause_154
      · replace hF := iq c hF
        refine V.iconst (v := 0) dX3_takeClause_130 rfl ?_
        cases hF
        exact V.bret dX3_takeClause_131
    · replace hF := iq c hF
      refine V.iconst (v := 0) dX3_takeClause_109 rfl ?_
      cases hF
      exact V.bret dX3_takeClause_110
def X3_takeClause_61 (n : Nat) (x1 : Bool) (h : Mm) : Option (Bool × Mm) := (if x1 = true then (bd (X7_sign n h) (fun r95 h97 => (bp (J0_indexOf_0f7a4 n 1028 r95 h97) (fun r98 => (if 0 ≤ r98 then (X3_takeClause_88 n x1 h97) else (bd (X3_order (-17 : Int32) h97) (fun _ h102 => (some (true, h102))))))))) else (X3_takeClause_88 n x1 h))
set_option maxRecDepth 100000 in
set_option maxHeartbeats 4000000 in
theorem v_X3_takeClause_61 {X : WX} {G : GX} {o : Mm} {n : Nat} {rv : Bool} {hz : Mm} {x1 : Bool} {h : Mm} (hF : X3_takeClause_61 n x1 h = some (rv, hz)) : V X G RX3 cX3_takeClause 3 (some .boolean) 96 0 0 (QR X G true o (some (.int (b2i rv))) hz) true o 61 [(0, .ref (xa X 7)), (1, .int (b2i x1))] [] h := by
  unfold X3_takeClause_61 at hF
  refine V.iload_n 1 dX3_takeClause_61 rfl rfl ?_
  refine V.ifz_eq (tgt := 88) dX3_takeClause_62 rfl (fun c => ?_) (fun c => ?_)
  · replace hF := iq c hF
    exact (v_X3_takeClause_88 hF)
  · replace hF := ip c hF
    refine V.ldcS sc_1028 rfl rfl dX3_takeClause_65 ?_
    refine V.aload_n 0 dX3_takeClause_67 rfl rfl ?_
    refine V.getR (v := 1) fl_X3_17 sh_7 rfl fx_7_0 (by decide) dX3_takeClause_68 ?_
    obtain ⟨r95, h97, hc96, hF⟩ := bd_s hF
    refine V.callVi mf_X7_sign ml_X3_43 sh_1 (s_X7_sign hc96) (by decide) rfl rfl (Nat.le_of_ble_eq_true rfl) dX3_takeClause_71 ?_
    obtain ⟨r98, hc99, hF⟩ := bp_s hF
    refine V.callTi mf_J0_indexOf_0f7a4 ml_X3_47 ⟨by decide, by decide⟩ (s_J0_indexOf_0f7a4 ⟨by decide, by decide⟩ hc99) (by decide) rfl rfl (Nat.le_of_ble_eq_true rfl) dX3_takeClause_74 ?_
    refine V.if_ge (tgt := 88) dX3_takeClause_77 rfl (fun c => ?_) (fun c => ?_)
    · replace hF := ip c hF
      exact (v_X3_takeClause_88 hF)
    · replace hF := iq c hF
      refine V.aload_n 0 dX3_takeClause_80 rfl rfl ?_
      refine V.bipush (v := -17) dX3_takeClause_81 (by decide) ?_
      obtain ⟨r100, h102, hc101, hF⟩ := bd_s hF
      refine V.callVv mf_X3_order ml_X3_59 sh_7 (s_X3_order hc101) (by decide) rfl rfl (Nat.le_of_ble_eq_true rfl) dX3_takeClause_83 ?_
      refine V.iconst (v := 1) dX3_takeClause_86 rfl ?_
      cases hF
      exact V.bret dX3_takeClause_87
def X3_takeClause_46 (n : Nat) (s0 : Bool) (h : Mm) : Option (Bool × Mm) := (if s0 = true then (bd (X3_takeSum n (X3_takeAtom n 9) (0 : Int32) h) (fun r103 h105 => (if r103 = true then (X3_takeClause_61 n s0 h105) else (some (false, h105))))) else (X3_takeClause_61 n s0 h))
set_option maxRecDepth 100000 in
set_option maxHeartbeats 4000000 in
theorem v_X3_takeClause_46 {X : WX} {G : GX} {o : Mm} {n : Nat} {rv : Bool} {hz : Mm} {s0 : Bool} {h : Mm} (hF : X3_takeClause_46 n s0 h = some (rv, hz)) : V X G RX3 cX3_takeClause 3 (some .boolean) 96 0 0 (QR X G true o (some (.int (b2i rv))) hz) true o 46 [(0, .ref (xa X 7))] [.int (b2i s0)] h := by
  unfold X3_takeClause_46 at hF
  refine V.istore_n [(1, _), (0, _)] dX3_takeClause_46 rfl (by decide) rfl ?_
  refine V.iload_n 0 dX3_takeClause_47 rfl rfl ?_
  refine V.ifz_eq (tgt := 61) dX3_takeClause_48 rfl (fun c => ?_) (fun c => ?_)
  · replace hF := iq c hF
    exact V.sub [1, 0] rfl (v_X3_takeClause_61 hF)
  · replace hF := ip c hF
    refine V.aload_n 1 dX3_takeClause_51 rfl rfl ?_
    refine V.iconst (v := 0) dX3_takeClause_52 rfl ?_
    obtain ⟨r103, h105, hc104, hF⟩ := bd_s hF
    refine V.callVi mf_X3_takeSum ml_X3_53 sh_7 (s_X3_takeSum (dr := 43) (by decide) (s_X3_takeAtom 9) hc104) (by decide) rfl rfl (Nat.le_of_ble_eq_true rfl) dX3_takeClause_53 ?_
    refine V.ifz_ne (tgt := 61) dX3_takeClause_56 rfl (fun c => ?_) (fun c => ?_)
    · replace hF := ip c hF
      exact V.sub [1, 0] rfl (v_X3_takeClause_61 hF)
    · replace hF := iq c hF
      refine V.iconst (v := 0) dX3_takeClause_59 rfl ?_
      cases hF
      exact V.bret dX3_takeClause_60
def X3_takeClause (n : Nat) (h : Mm) : Option (Bool × Mm) := (bd (X7_take n (121 : Int32) h) (fun r106 h108 => (if r106 = true then (bd (X7_take n (58 : Int32) h108) (fun r109 h111 => (if r109 = true then (bd (X7_sign n h111) (fun r112 h114 => (bp (J0_indexOf_0f7a4 n 1024 r112 h114) (fun r115 => (if 0 ≤ r115 then (X3_takeClause_46 n false h114) else (X3_takeClause_46 n true h114)))))) else (some (false, h111))))) else (some (false, h108)))))
set_option maxRecDepth 100000 in
set_option maxHeartbeats 4000000 in
theorem s_X3_takeClause {X : WX} {o : Mm} {n : Nat} {rv : Bool} {hz : Mm} {h : Mm} (hF : X3_takeClause n h = some (rv, hz)) : Sat X yX3_takeClause cX3_takeClause 3 (some .boolean) 96 [.ref (xa X 7)] true o h (some (.int (b2i rv))) hz := by
  unfold X3_takeClause at hF
  refine Sat.mk (own := RX3) rfl (by decide +kernel) (Nat.le_of_ble_eq_true rfl) (fun G => ?_)
  refine V.sub (lv2 := [(0, _)]) [0] rfl ?_
  refine V.aload_n 0 dX3_takeClause_0 rfl rfl ?_
  refine V.getR (v := 1) fl_X3_17 sh_7 rfl fx_7_0 (by decide) dX3_takeClause_1 ?_
  refine V.bipush (v := 121) dX3_takeClause_4 (by decide) ?_
  obtain ⟨r106, h108, hc107, hF⟩ := bd_s hF
  refine V.callVi mf_X7_take ml_X3_37 sh_1 (s_X7_take hc107) (by decide) rfl rfl (Nat.le_of_ble_eq_true rfl) dX3_takeClause_6 ?_
  refine V.ifz_eq (tgt := 24) dX3_takeClause_9 rfl (fun c => ?_) (fun c => ?_)
  · replace hF := iq c hF
    refine V.iconst (v := 0) dX3_takeClause_24 rfl ?_
    cases hF
    exact V.bret dX3_takeClause_25
  · replace hF := ip c hF
    refine V.aload_n 0 dX3_takeClause_12 rfl rfl ?_
    refine V.getR (v := 1) fl_X3_17 sh_7 rfl fx_7_0 (by decide) dX3_takeClause_13 ?_
    refine V.bipush (v := 58) dX3_takeClause_16 (by decide) ?_
    obtain ⟨r109, h111, hc110, hF⟩ := bd_s hF
    refine V.callVi mf_X7_take ml_X3_37 sh_1 (s_X7_take hc110) (by decide) rfl rfl (Nat.le_of_ble_eq_true rfl) dX3_takeClause_18 ?_
    refine V.ifz_ne (tgt := 26) dX3_takeClause_21 rfl (fun c => ?_) (fun c => ?_)
    · replace hF := ip c hF
      refine V.ldcS sc_1024 rfl rfl dX3_takeClause_26 ?_
      refine V.aload_n 0 dX3_takeClause_28 rfl rfl ?_
      refine V.getR (v := 1) fl_X3_17 sh_7 rfl fx_7_0 (by decide) dX3_takeClause_29 ?_
      obtain ⟨r112, h114, hc113, hF⟩ := bd_s hF
      refine V.callVi mf_X7_sign ml_X3_43 sh_1 (s_X7_sign hc113) (by decide) rfl rfl (Nat.le_of_ble_eq_true rfl) dX3_takeClause_32 ?_
      obtain ⟨r115, hc116, hF⟩ := bp_s hF
      refine V.callTi mf_J0_indexOf_0f7a4 ml_X3_47 ⟨by decide, by decide⟩ (s_J0_indexOf_0f7a4 ⟨by decide, by decide⟩ hc116) (by decide) rfl rfl (Nat.le_of_ble_eq_true rfl) dX3_takeClause_35 ?_
      refine V.if_ge (tgt := 45) dX3_takeClause_38 rfl (fun c => ?_) (fun c => ?_)
      · replace hF := ip c hF
        refine V.iconst (v := 0) dX3_takeClause_45 rfl ?_
        exact (v_X3_takeClause_46 hF)
      · replace hF := iq c hF
        refine V.iconst (v := 1) dX3_takeClause_41 rfl ?_
        refine V.goto (tgt := 46) dX3_takeClause_42 rfl ?_
        exact (v_X3_takeClause_46 hF)
    · replace hF := iq c hF
      refine V.iconst (v := 0) dX3_takeClause_24 rfl ?_
      cases hF
      exact V.bret dX3_takeClause_25
/-! MonsterCot$LawText.isRight -/
theorem dX3_isRight_0 : decode cX3_isRight 0 = .ok (.aload_n 0, 1) := by decide +kernel
theorem dX3_isRight_1 : decode cX3_isRight 1 = .ok (.getfield 17, 3) := by decide +kernel
theorem dX3_isRight_4 : decode cX3_isRight 4 = .ok (.iconst 0, 1) := by decide +kernel
theorem dX3_isRight_5 : decode cX3_isRight 5 = .ok (.putfield 21, 3) := by decide +kernel
theorem dX3_isRight_8 : decode cX3_isRight 8 = .ok (.aload_n 0, 1) := by decide +kernel
theorem dX3_isRight_9 : decode cX3_isRight 9 = .ok (.iconst 0, 1) := by decide +kernel
theorem dX3_isRight_10 : decode cX3_isRight 10 = .ok (.putfield 27, 3) := by decide +kernel
theorem dX3_isRight_13 : decode cX3_isRight 13 = .ok (.iconst 0, 1) := by decide +kernel
theorem dX3_isRight_14 : decode cX3_isRight 14 = .ok (.istore_n 1, 1) := by decide +kernel
theorem dX3_isRight_15 : decode cX3_isRight 15 = .ok (.iload_n 1, 1) := by decide +kernel
theorem dX3_isRight_16 : decode cX3_isRight 16 = .ok (.sipush 240, 3) := by decide +kernel
theorem dX3_isRight_19 : decode cX3_isRight 19 = .ok (.if_icmp .ge 44, 3) := by decide +kernel
theorem dX3_isRight_22 : decode cX3_isRight 22 = .ok (.aload_n 0, 1) := by decide +kernel
theorem dX3_isRight_23 : decode cX3_isRight 23 = .ok (.invokevirtual 30, 3) := by decide +kernel
theorem dX3_isRight_26 : decode cX3_isRight 26 = .ok (.ifCond .ne 5, 3) := by decide +kernel
theorem dX3_isRight_29 : decode cX3_isRight 29 = .ok (.iconst 0, 1) := by decide +kernel
theorem dX3_isRight_30 : decode cX3_isRight 30 = .ok (.ireturn, 1) := by decide +kernel
theorem dX3_isRight_31 : decode cX3_isRight 31 = .ok (.aload_n 0, 1) := by decide +kernel
theorem dX3_isRight_32 : decode cX3_isRight 32 = .ok (.getfield 17, 3) := by decide +kernel
theorem dX3_isRight_35 : decode cX3_isRight 35 = .ok (.invokevirtual 34, 3) := by decide +kernel
theorem dX3_isRight_38 : decode cX3_isRight 38 = .ok (.ifCond .eq 5, 3) := by decide +kernel
theorem dX3_isRight_41 : decode cX3_isRight 41 = .ok (.iconst 1, 1) := by decide +kernel
theorem dX3_isRight_42 : decode cX3_isRight 42 = .ok (.ireturn, 1) := by decide +kernel
theorem dX3_isRight_43 : decode cX3_isRight 43 = .ok (.aload_n 0, 1) := by decide +kernel
theorem dX3_isRight_44 : decode cX3_isRight 44 = .ok (.getfield 17, 3) := by decide +kernel
theorem dX3_isRight_47 : decode cX3_isRight 47 = .ok (.bipush 59, 2) := by decide +kernel
theorem dX3_isRight_49 : decode cX3_isRight 49 = .ok (.invokevirtual 37, 3) := by decide +kernel
theorem dX3_isRight_52 : decode cX3_isRight 52 = .ok (.ifCond .ne 5, 3) := by decide +kernel
theorem dX3_isRight_55 : decode cX3_isRight 55 = .ok (.iconst 0, 1) := by decide +kernel
theorem dX3_isRight_56 : decode cX3_isRight 56 = .ok (.ireturn, 1) := by decide +kernel
theorem dX3_isRight_57 : decode cX3_isRight 57 = .ok (.iinc 1 1, 3) := by decide +kernel
theorem dX3_isRight_60 : decode cX3_isRight 60 = .ok (.goto (-45), 3) := by decide +kernel
theorem dX3_isRight_63 : decode cX3_isRight 63 = .ok (.iconst 0, 1) := by decide +kernel
theorem dX3_isRight_64 : decode cX3_isRight 64 = .ok (.ireturn, 1) := by decide +kernel
def X3_isRight_15 (n : Nat) : Nat → Int32 → Mm → Option (Bool × Mm)
  | 0, _, _ => none
  | f + 1, x1, h => (if (240 : Int32) ≤ x1 then (some (false, h)) else (bd (X3_takeClause n h) (fun r19 h21 => (if r19 = true then (bd (X7_isAtEnd n h21) (fun r22 h24 => (if r22 = true then (some (true, h24)) else (bd (X7_take n (59 : Int32) h24) (fun r25 h27 => (if r25 = true then ((X3_isRight_15 n f) (x1 + (1)) h27) else (some (false, h27)))))))) else (some (false, h21))))))
set_option maxRecDepth 100000 in
set_option maxHeartbeats 4000000 in
theorem v_X3_isRight_15 {X : WX} {G : GX} {o : Mm} {n : Nat} {rv : Bool} {hz : Mm} : ∀ (f : Nat) (x1 : Int32) (h : Mm), X3_isRight_15 n f x1 h = some (rv, hz) → V X G RX3 cX3_isRight 2 (some .boolean) 97 0 0 (QR X G true o (some (.int (b2i rv))) hz) true o 15 [(0, .ref (xa X 7)), (1, .int x1)] [] h := by
  intro f
  induction f with
  | zero => intro x1 h hF; exact nomatch (show (none : Option (Bool × Mm)) = some (rv, hz) from hF)
  | succ f ih =>
    intro x1 h hF
    unfold X3_isRight_15 at hF
    refine V.iload_n 1 dX3_isRight_15 rfl rfl ?_
    refine V.sipush (v := 240) dX3_isRight_16 (by decide) ?_
    refine V.icmp_ge (tgt := 63) dX3_isRight_19 rfl (fun c => ?_) (fun c => ?_)
    · replace hF := ip c hF
      refine V.iconst (v := 0) dX3_isRight_63 rfl ?_
      cases hF
      exact V.bret dX3_isRight_64
    · replace hF := iq c hF
      refine V.aload_n 0 dX3_isRight_22 rfl rfl ?_
      obtain ⟨r19, h21, hc20, hF⟩ := bd_s hF
      refine V.callVi mf_X3_takeClause ml_X3_30 sh_7 (s_X3_takeClause hc20) (by decide) rfl rfl (Nat.le_of_ble_eq_true rfl) dX3_isRight_23 ?_
      refine V.ifz_ne (tgt := 31) dX3_isRight_26 rfl (fun c => ?_) (fun c => ?_)
      · replace hF := ip c hF
        refine V.aload_n 0 dX3_isRight_31 rfl rfl ?_
        refine V.getR (v := 1) fl_X3_17 sh_7 rfl fx_7_0 (by decide) dX3_isRight_32 ?_
        obtain ⟨r22, h24, hc23, hF⟩ := bd_s hF
        refine V.callVi mf_X7_isAtEnd ml_X3_34 sh_1 (s_X7_isAtEnd hc23) (by decide) rfl rfl (Nat.le_of_ble_eq_true rfl) dX3_isRight_35 ?_
        refine V.ifz_eq (tgt := 43) dX3_isRight_38 rfl (fun c => ?_) (fun c => ?_)
        · replace hF := iq c hF
          refine V.aload_n 0 dX3_isRight_43 rfl rfl ?_
          refine V.getR (v := 1) fl_X3_17 sh_7 rfl fx_7_0 (by decide) dX3_isRight_44 ?_
          refine V.bipush (v := 59) dX3_isRight_47 (by decide) ?_
          obtain ⟨r25, h27, hc26, hF⟩ := bd_s hF
          refine V.callVi mf_X7_take ml_X3_37 sh_1 (s_X7_take hc26) (by decide) rfl rfl (Nat.le_of_ble_eq_true rfl) dX3_isRight_49 ?_
          refine V.ifz_ne (tgt := 57) dX3_isRight_52 rfl (fun c => ?_) (fun c => ?_)
          · replace hF := ip c hF
            refine V.iinc (v := (x1 + (1))) 1 [(1, _), (0, _)] dX3_isRight_57 rfl rfl (by decide) rfl ?_
            refine V.goto (tgt := 15) dX3_isRight_60 rfl ?_
            exact V.sub [1, 0] rfl (ih _ _ hF)
          · replace hF := iq c hF
            refine V.iconst (v := 0) dX3_isRight_55 rfl ?_
            cases hF
            exact V.bret dX3_isRight_56
        · replace hF := ip c hF
          refine V.iconst (v := 1) dX3_isRight_41 rfl ?_
          cases hF
          exact V.bret dX3_isRight_42
      · replace hF := iq c hF
        refine V.iconst (v := 0) dX3_isRight_29 rfl ?_
        cases hF
        exact V.bret dX3_isRight_30
def X3_isRight (n : Nat) (h : Mm) : Option (Bool × Mm) := (X3_isRight_15 n n (0 : Int32) (wI (wI h 1 2 (0 : Int32)) 7 2 (0 : Int32)))
set_option maxRecDepth 100000 in
set_option maxHeartbeats 4000000 in
theorem s_X3_isRight {X : WX} {o : Mm} {n : Nat} {rv : Bool} {hz : Mm} {h : Mm} (hF : X3_isRight n h = some (rv, hz)) : Sat X yX3_isRight cX3_isRight 2 (some .boolean) 97 [.ref (xa X 7)] true o h (some (.int (b2i rv))) hz := by
  unfold X3_isRight at hF
  refine Sat.mk (own := RX3) rfl (by decide +kernel) (Nat.le_of_ble_eq_true rfl) (fun G => ?_)
  refine V.sub (lv2 := [(0, _)]) [0] rfl ?_
  refine V.aload_n 0 dX3_isRight_0 rfl rfl ?_
  refine V.getR (v := 1) fl_X3_17 sh_7 rfl fx_7_0 (by decide) dX3_isRight_1 ?_
  refine V.iconst (v := 0) dX3_isRight_4 rfl ?_
  refine V.putI fl_X3_21 rfl (tyX7_ok 2 (by decide)) rfl rfl sh_1 rfl km_1 dX3_isRight_5 ?_
  refine V.aload_n 0 dX3_isRight_8 rfl rfl ?_
  refine V.iconst (v := 0) dX3_isRight_9 rfl ?_
  refine V.putI fl_X3_27 rfl (tyX3_ok 2 (by decide)) rfl rfl sh_7 rfl km_7 dX3_isRight_10 ?_
  refine V.iconst (v := 0) dX3_isRight_13 rfl ?_
  refine V.istore_n [(1, _), (0, _)] dX3_isRight_14 rfl (by decide) rfl ?_
  exact V.sub [1, 0] rfl (v_X3_isRight_15 n _ _ hF)
/-! MonsterCot$Tape.takeDigit -/
theorem dX7_takeDigit_0 : decode cX7_takeDigit 0 = .ok (.aload_n 0, 1) := by decide +kernel
theorem dX7_takeDigit_1 : decode cX7_takeDigit 1 = .ok (.invokevirtual 30, 3) := by decide +kernel
theorem dX7_takeDigit_4 : decode cX7_takeDigit 4 = .ok (.istore_n 1, 1) := by decide +kernel
theorem dX7_takeDigit_5 : decode cX7_takeDigit 5 = .ok (.iload_n 1, 1) := by decide +kernel
theorem dX7_takeDigit_6 : decode cX7_takeDigit 6 = .ok (.invokestatic 39, 3) := by decide +kernel
theorem dX7_takeDigit_9 : decode cX7_takeDigit 9 = .ok (.ifCond .ne 5, 3) := by decide +kernel
theorem dX7_takeDigit_12 : decode cX7_takeDigit 12 = .ok (.iconst (-1), 1) := by decide +kernel
theorem dX7_takeDigit_13 : decode cX7_takeDigit 13 = .ok (.ireturn, 1) := by decide +kernel
theorem dX7_takeDigit_14 : decode cX7_takeDigit 14 = .ok (.aload_n 0, 1) := by decide +kernel
theorem dX7_takeDigit_15 : decode cX7_takeDigit 15 = .ok (.dup, 1) := by decide +kernel
theorem dX7_takeDigit_16 : decode cX7_takeDigit 16 = .ok (.getfield 27, 3) := by decide +kernel
theorem dX7_takeDigit_19 : decode cX7_takeDigit 19 = .ok (.iconst 1, 1) := by decide +kernel
theorem dX7_takeDigit_20 : decode cX7_takeDigit 20 = .ok (.iadd, 1) := by decide +kernel
theorem dX7_takeDigit_21 : decode cX7_takeDigit 21 = .ok (.putfield 27, 3) := by decide +kernel
theorem dX7_takeDigit_24 : decode cX7_takeDigit 24 = .ok (.iload_n 1, 1) := by decide +kernel
theorem dX7_takeDigit_25 : decode cX7_takeDigit 25 = .ok (.bipush 48, 2) := by decide +kernel
theorem dX7_takeDigit_27 : decode cX7_takeDigit 27 = .ok (.isub, 1) := by decide +kernel
theorem dX7_takeDigit_28 : decode cX7_takeDigit 28 = .ok (.ireturn, 1) := by decide +kernel
def X7_takeDigit (n : Nat) (h : Mm) : Option (Int32 × Mm) := (bd (X7_sign n h) (fun r6 h8 => (bp (X7_isDigit r6 h8) (fun r9 => (if r9 = true then (some ((r6 - (48 : Int32)), (wI h8 1 2 ((h8.1 1 2) + (1 : Int32))))) else (some ((-1 : Int32), h8)))))))
set_option maxRecDepth 100000 in
set_option maxHeartbeats 4000000 in
theorem s_X7_takeDigit {X : WX} {o : Mm} {n : Nat} {rv : Int32} {hz : Mm} {h : Mm} (hF : X7_takeDigit n h = some (rv, hz)) : Sat X yX7_takeDigit cX7_takeDigit 2 (some .int) 2 [.ref (xa X 1)] true o h (some (.int rv)) hz := by
  unfold X7_takeDigit at hF
  refine Sat.mk (own := RX7) rfl (by decide +kernel) (Nat.le_of_ble_eq_true rfl) (fun G => ?_)
  refine V.sub (lv2 := [(0, _)]) [0] rfl ?_
  refine V.aload_n 0 dX7_takeDigit_0 rfl rfl ?_
  obtain ⟨r6, h8, hc7, hF⟩ := bd_s hF
  refine V.callVi mf_X7_sign ml_X7_30 sh_1 (s_X7_sign hc7) (by decide) rfl rfl (Nat.le_of_ble_eq_true rfl) dX7_takeDigit_1 ?_
  refine V.istore_n [(1, _), (0, _)] dX7_takeDigit_4 rfl (by decide) rfl ?_
  refine V.iload_n 0 dX7_takeDigit_5 rfl rfl ?_
  obtain ⟨r9, hc10, hF⟩ := bp_s hF
  refine V.callSi mf_X7_isDigit ml_X7_39 (s_X7_isDigit hc10) (by decide) rfl rfl (Nat.le_of_ble_eq_true rfl) dX7_takeDigit_6 ?_
  refine V.ifz_ne (tgt := 14) dX7_takeDigit_9 rfl (fun c => ?_) (fun c => ?_)
  · replace hF := ip c hF
    refine V.aload_n 1 dX7_takeDigit_14 rfl rfl ?_
    refine V.dup dX7_takeDigit_15 rfl ?_
    refine V.getI fl_X7_27 sh_1 rfl km_1 dX7_takeDigit_16 ?_
    refine V.iconst (v := 1) dX7_takeDigit_19 rfl ?_
    refine V.iadd dX7_takeDigit_20 ?_
    refine V.putI fl_X7_27 rfl (tyX7_ok 2 (by decide)) rfl rfl sh_1 rfl km_1 dX7_takeDigit_21 ?_
    refine V.iload_n 0 dX7_takeDigit_24 rfl rfl ?_
    refine V.bipush (v := 48) dX7_takeDigit_25 (by decide) ?_
    refine V.isub dX7_takeDigit_27 ?_
    cases hF
    exact V.iret dX7_takeDigit_28
  · replace hF := iq c hF
    refine V.iconst (v := -1) dX7_takeDigit_12 rfl ?_
    cases hF
    exact V.iret dX7_takeDigit_13
/-! MonsterCot$Weeks.takeStep -/
theorem dX10_takeStep_0 : decode cX10_takeStep 0 = .ok (.aload_n 0, 1) := by decide +kernel
theorem dX10_takeStep_1 : decode cX10_takeStep 1 = .ok (.getfield 21, 3) := by decide +kernel
theorem dX10_takeStep_4 : decode cX10_takeStep 4 = .ok (.ldc 46, 2) := by decide +kernel
theorem dX10_takeStep_6 : decode cX10_takeStep 6 = .ok (.invokevirtual 48, 3) := by decide +kernel
theorem dX10_takeStep_9 : decode cX10_takeStep 9 = .ok (.istore_n 2, 1) := by decide +kernel
theorem dX10_takeStep_10 : decode cX10_takeStep 10 = .ok (.iload_n 2, 1) := by decide +kernel
theorem dX10_takeStep_11 : decode cX10_takeStep 11 = .ok (.ifCond .ge 5, 3) := by decide +kernel
theorem dX10_takeStep_14 : decode cX10_takeStep 14 = .ok (.iconst 0, 1) := by decide +kernel
theorem dX10_takeStep_15 : decode cX10_takeStep 15 = .ok (.ireturn, 1) := by decide +kernel
theorem dX10_takeStep_16 : decode cX10_takeStep 16 = .ok (.getstatic 52, 3) := by decide +kernel
theorem dX10_takeStep_19 : decode cX10_takeStep 19 = .ok (.iload_n 2, 1) := by decide +kernel
theorem dX10_takeStep_20 : decode cX10_takeStep 20 = .ok (.invokestatic 55, 3) := by decide +kernel
theorem dX10_takeStep_23 : decode cX10_takeStep 23 = .ok (.istore_n 3, 1) := by decide +kernel
theorem dX10_takeStep_24 : decode cX10_takeStep 24 = .ok (.iload_n 3, 1) := by decide +kernel
theorem dX10_takeStep_25 : decode cX10_takeStep 25 = .ok (.iconst 1, 1) := by decide +kernel
theorem dX10_takeStep_26 : decode cX10_takeStep 26 = .ok (.if_icmp .ge 7, 3) := by decide +kernel
theorem dX10_takeStep_29 : decode cX10_takeStep 29 = .ok (.iconst 0, 1) := by decide +kernel
theorem dX10_takeStep_30 : decode cX10_takeStep 30 = .ok (.goto 10, 3) := by decide +kernel
theorem dX10_takeStep_33 : decode cX10_takeStep 33 = .ok (.aload_n 0, 1) := by decide +kernel
theorem dX10_takeStep_34 : decode cX10_takeStep 34 = .ok (.getfield 21, 3) := by decide +kernel
theorem dX10_takeStep_37 : decode cX10_takeStep 37 = .ok (.invokevirtual 59, 3) := by decide +kernel
theorem dX10_takeStep_40 : decode cX10_takeStep 40 = .ok (.istore 4, 2) := by decide +kernel
theorem dX10_takeStep_42 : decode cX10_takeStep 42 = .ok (.iload 4, 2) := by decide +kernel
theorem dX10_takeStep_44 : decode cX10_takeStep 44 = .ok (.ifCond .ge 5, 3) := by decide +kernel
theorem dX10_takeStep_47 : decode cX10_takeStep 47 = .ok (.iconst 0, 1) := by decide +kernel
theorem dX10_takeStep_48 : decode cX10_takeStep 48 = .ok (.ireturn, 1) := by decide +kernel
theorem dX10_takeStep_49 : decode cX10_takeStep 49 = .ok (.iload_n 3, 1) := by decide +kernel
theorem dX10_takeStep_50 : decode cX10_takeStep 50 = .ok (.iconst 2, 1) := by decide +kernel
theorem dX10_takeStep_51 : decode cX10_takeStep 51 = .ok (.if_icmp .ge 7, 3) := by decide +kernel
theorem dX10_takeStep_54 : decode cX10_takeStep 54 = .ok (.iconst 0, 1) := by decide +kernel
theorem dX10_takeStep_55 : decode cX10_takeStep 55 = .ok (.goto 10, 3) := by decide +kernel
theorem dX10_takeStep_58 : decode cX10_takeStep 58 = .ok (.aload_n 0, 1) := by decide +kernel
theorem dX10_takeStep_59 : decode cX10_takeStep 59 = .ok (.getfield 21, 3) := by decide +kernel
theorem dX10_takeStep_62 : decode cX10_takeStep 62 = .ok (.invokevirtual 59, 3) := by decide +kernel
theorem dX10_takeStep_65 : decode cX10_takeStep 65 = .ok (.istore 5, 2) := by decide +kernel
theorem dX10_takeStep_67 : decode cX10_takeStep 67 = .ok (.iload 5, 2) := by decide +kernel
theorem dX10_takeStep_69 : decode cX10_takeStep 69 = .ok (.ifCond .ge 5, 3) := by decide +kernel
theorem dX10_takeStep_72 : decode cX10_takeStep 72 = .ok (.iconst 0, 1) := by decide +kernel
theorem dX10_takeStep_73 : decode cX10_takeStep 73 = .ok (.ireturn, 1) := by decide +kernel
theorem dX10_takeStep_74 : decode cX10_takeStep 74 = .ok (.aload_n 0, 1) := by decide +kernel
theorem dX10_takeStep_75 : decode cX10_takeStep 75 = .ok (.getfield 11, 3) := by decide +kernel
theorem dX10_takeStep_78 : decode cX10_takeStep 78 = .ok (.iload_n 1, 1) := by decide +kernel
theorem dX10_takeStep_79 : decode cX10_takeStep 79 = .ok (.iload_n 2, 1) := by decide +kernel
theorem dX10_takeStep_80 : decode cX10_takeStep 80 = .ok (.bipush 100, 2) := by decide +kernel
theorem dX10_takeStep_82 : decode cX10_takeStep 82 = .ok (.imul, 1) := by decide +kernel
theorem dX10_takeStep_83 : decode cX10_takeStep 83 = .ok (.iload 4, 2) := by decide +kernel
theorem dX10_takeStep_85 : decode cX10_takeStep 85 = .ok (.bipush 10, 2) := by decide +kernel
theorem dX10_takeStep_87 : decode cX10_takeStep 87 = .ok (.imul, 1) := by decide +kernel
theorem dX10_takeStep_88 : decode cX10_takeStep 88 = .ok (.iadd, 1) := by decide +kernel
theorem dX10_takeStep_89 : decode cX10_takeStep 89 = .ok (.iload 5, 2) := by decide +kernel
theorem dX10_takeStep_91 : decode cX10_takeStep 91 = .ok (.iadd, 1) := by decide +kernel
theorem dX10_takeStep_92 : decode cX10_takeStep 92 = .ok (.invokestatic 63, 3) := by decide +kernel
theorem dX10_takeStep_95 : decode cX10_takeStep 95 = .ok (.iconst 1, 1) := by decide +kernel
theorem dX10_takeStep_96 : decode cX10_takeStep 96 = .ok (.ireturn, 1) := by decide +kernel
def X10_takeStep_65 (n : Nat) (x1 : Int32) (x2 : Int32) (x4 : Int32) (s0 : Int32) (h : Mm) : Option (Bool × Mm) := (if 0 ≤ s0 then (bd (X11_put 10 x1 (((x2 * (100 : Int32)) + (x4 * (10 : Int32))) + s0) h) (fun _ h28 => (some (true, h28)))) else (some (false, h)))
set_option maxRecDepth 100000 in
set_option maxHeartbeats 4000000 in
theorem v_X10_takeStep_65 {X : WX} {G : GX} {o : Mm} {n : Nat} {rv : Bool} {hz : Mm} {x1 : Int32} {x2 : Int32} {x4 : Int32} {s0 : Int32} {h : Mm} (hF : X10_takeStep_65 n x1 x2 x4 s0 h = some (rv, hz)) : V X G RX10 cX10_takeStep 6 (some .boolean) 6 0 0 (QR X G true o (some (.int (b2i rv))) hz) true o 65 [(0, .ref (xa X 9)), (1, .int x1), (2, .int x2), (4, .int x4)] [.int s0] h := by
  unfold X10_takeStep_65 at hF
  refine V.istore [(5, _), (0, _), (1, _), (2, _), (4, _)] dX10_takeStep_65 (by decide) rfl ?_
  refine V.iload 0 dX10_takeStep_67 rfl ?_
  refine V.if_ge (tgt := 74) dX10_takeStep_69 rfl (fun c => ?_) (fun c => ?_)
  · replace hF := ip c hF
    refine V.aload_n 1 dX10_takeStep_74 rfl rfl ?_
    refine V.getR (v := 10) fl_X10_11 sh_9 rfl fx_9_1 (by decide) dX10_takeStep_75 ?_
    refine V.iload_n 2 dX10_takeStep_78 rfl rfl ?_
    refine V.iload_n 3 dX10_takeStep_79 rfl rfl ?_
    refine V.bipush (v := 100) dX10_takeStep_80 (by decide) ?_
    refine V.imul dX10_takeStep_82 ?_
    refine V.iload 4 dX10_takeStep_83 rfl ?_
    refine V.bipush (v := 10) dX10_takeStep_85 (by decide) ?_
    refine V.imul dX10_takeStep_87 ?_
    refine V.iadd dX10_takeStep_88 ?_
    refine V.iload 0 dX10_takeStep_89 rfl ?_
    refine V.iadd dX10_takeStep_91 ?_
    obtain ⟨r26, h28, hc27, hF⟩ := bd_s hF
    refine V.callNv mf_X11_put ml_X10_63 (s_X11_put io_10 hc27) (by decide) rfl rfl (Nat.le_of_ble_eq_true rfl) dX10_takeStep_92 ?_
    refine V.iconst (v := 1) dX10_takeStep_95 rfl ?_
    cases hF
    exact V.bret dX10_takeStep_96
  · replace hF := iq c hF
    refine V.iconst (v := 0) dX10_takeStep_72 rfl ?_
    cases hF
    exact V.bret dX10_takeStep_73
def X10_takeStep_40 (n : Nat) (x1 : Int32) (x2 : Int32) (x3 : Int32) (s0 : Int32) (h : Mm) : Option (Bool × Mm) := (if 0 ≤ s0 then (if (2 : Int32) ≤ x3 then (bd (X7_takeDigit n h) (fun r29 h31 => (X10_takeStep_65 n x1 x2 s0 r29 h31))) else (X10_takeStep_65 n x1 x2 s0 (0 : Int32) h)) else (some (false, h)))
set_option maxRecDepth 100000 in
set_option maxHeartbeats 4000000 in
theorem v_X10_takeStep_40 {X : WX} {G : GX} {o : Mm} {n : Nat} {rv : Bool} {hz : Mm} {x1 : Int32} {x2 : Int32} {x3 : Int32} {s0 : Int32} {h : Mm} (hF : X10_takeStep_40 n x1 x2 x3 s0 h = some (rv, hz)) : V X G RX10 cX10_takeStep 6 (some .boolean) 6 0 0 (QR X G true o (some (.int (b2i rv))) hz) true o 40 [(0, .ref (xa X 9)), (1, .int x1), (2, .int x2), (3, .int x3)] [.int s0] h := by
  unfold X10_takeStep_40 at hF
  refine V.istore [(4, _), (0, _), (1, _), (2, _), (3, _)] dX10_takeStep_40 (by decide) rfl ?_
  refine V.iload 0 dX10_takeStep_42 rfl ?_
  refine V.if_ge (tgt := 49) dX10_takeStep_44 rfl (fun c => ?_) (fun c => ?_)
  · replace hF := ip c hF
    refine V.iload_n 4 dX10_takeStep_49 rfl rfl ?_
    refine V.iconst (v := 2) dX10_takeStep_50 rfl ?_
    refine V.icmp_ge (tgt := 58) dX10_takeStep_51 rfl (fun c => ?_) (fun c => ?_)
    · replace hF := ip c hF
      refine V.aload_n 1 dX10_takeStep_58 rfl rfl ?_
      refine V.getR (v := 1) fl_X10_21 sh_9 rfl fx_9_0 (by decide) dX10_takeStep_59 ?_
      obtain ⟨r29, h31, hc30, hF⟩ := bd_s hF
      refine V.callVi mf_X7_takeDigit ml_X10_59 sh_1 (s_X7_takeDigit hc30) (by decide) rfl rfl (Nat.le_of_ble_eq_true rfl) dX10_takeStep_62 ?_
      exact V.sub [1, 2, 3, 0] rfl (v_X10_takeStep_65 hF)
    · replace hF := iq c hF
      refine V.iconst (v := 0) dX10_takeStep_54 rfl ?_
      refine V.goto (tgt := 65) dX10_takeStep_55 rfl ?_
      exact V.sub [1, 2, 3, 0] rfl (v_X10_takeStep_65 hF)
  · replace hF := iq c hF
    refine V.iconst (v := 0) dX10_takeStep_47 rfl ?_
    cases hF
    exact V.bret dX10_takeStep_48
def X10_takeStep (n : Nat) (x1 : Int32) (h : Mm) : Option (Bool × Mm) := (bd (X7_takeOneOf n 1029 h) (fun r32 h34 => (if 0 ≤ r32 then (bp (X11_at 1006 r32 h34) (fun r35 => (if (1 : Int32) ≤ r35 then (bd (X7_takeDigit n h34) (fun r37 h39 => (X10_takeStep_40 n x1 r32 r35 r37 h39))) else (X10_takeStep_40 n x1 r32 r35 (0 : Int32) h34)))) else (some (false, h34)))))
set_option maxRecDepth 100000 in
set_option maxHeartbeats 4000000 in
theorem s_X10_takeStep {X : WX} {o : Mm} {n : Nat} {x1 : Int32} {rv : Bool} {hz : Mm} {h : Mm} (hF : X10_takeStep n x1 h = some (rv, hz)) : Sat X yX10_takeStep cX10_takeStep 6 (some .boolean) 6 [.ref (xa X 9), .int x1] true o h (some (.int (b2i rv))) hz := by
  unfold X10_takeStep at hF
  refine Sat.mk (own := RX10) rfl (by decide +kernel) (Nat.le_of_ble_eq_true rfl) (fun G => ?_)
  refine V.sub (lv2 := [(0, _), (1, _)]) [0, 1] rfl ?_
  refine V.aload_n 0 dX10_takeStep_0 rfl rfl ?_
  refine V.getR (v := 1) fl_X10_21 sh_9 rfl fx_9_0 (by decide) dX10_takeStep_1 ?_
  refine V.ldcS sc_1029 rfl rfl dX10_takeStep_4 ?_
  obtain ⟨r32, h34, hc33, hF⟩ := bd_s hF
  refine V.callVi mf_X7_takeOneOf ml_X10_48 sh_1 (s_X7_takeOneOf ⟨by decide, by decide⟩ hc33) (by decide) rfl rfl (Nat.le_of_ble_eq_true rfl) dX10_takeStep_6 ?_
  refine V.istore_n [(2, _), (0, _), (1, _)] dX10_takeStep_9 rfl (by decide) rfl ?_
  refine V.iload_n 0 dX10_takeStep_10 rfl rfl ?_
  refine V.if_ge (tgt := 16) dX10_takeStep_11 rfl (fun c => ?_) (fun c => ?_)
  · replace hF := ip c hF
    refine V.gets zm_1006 sl_X10_52 dX10_takeStep_16 ?_
    refine V.iload_n 0 dX10_takeStep_19 rfl rfl ?_
    obtain ⟨r35, hc36, hF⟩ := bp_s hF
    refine V.callNi mf_X11_at ml_X10_55 (s_X11_at (Or.inr ⟨by decide, by decide⟩) hc36) (by decide) rfl rfl (Nat.le_of_ble_eq_true rfl) dX10_takeStep_20 ?_
    refine V.istore_n [(3, _), (2, _), (0, _), (1, _)] dX10_takeStep_23 rfl (by decide) rfl ?_
    refine V.iload_n 0 dX10_takeStep_24 rfl rfl ?_
    refine V.iconst (v := 1) dX10_takeStep_25 rfl ?_
    refine V.icmp_ge (tgt := 33) dX10_takeStep_26 rfl (fun c => ?_) (fun c => ?_)
    · replace hF := ip c hF
      refine V.aload_n 2 dX10_takeStep_33 rfl rfl ?_
      refine V.getR (v := 1) fl_X10_21 sh_9 rfl fx_9_0 (by decide) dX10_takeStep_34 ?_
      obtain ⟨r37, h39, hc38, hF⟩ := bd_s hF
      refine V.callVi mf_X7_takeDigit ml_X10_59 sh_1 (s_X7_takeDigit hc38) (by decide) rfl rfl (Nat.le_of_ble_eq_true rfl) dX10_takeStep_37 ?_
      exact V.sub [2, 3, 1, 0] rfl (v_X10_takeStep_40 hF)
    · replace hF := iq c hF
      refine V.iconst (v := 0) dX10_takeStep_29 rfl ?_
      refine V.goto (tgt := 40) dX10_takeStep_30 rfl ?_
      exact V.sub [2, 3, 1, 0] rfl (v_X10_takeStep_40 hF)
  · replace hF := iq c hF
    refine V.iconst (v := 0) dX10_takeStep_14 rfl ?_
    cases hF
    exact V.bret dX10_takeStep_15
/-! MonsterCot$Weeks.isRight -/
theorem dX10_isRight_0 : decode cX10_isRight 0 = .ok (.aload_n 0, 1) := by decide +kernel
theorem dX10_isRight_1 : decode cX10_isRight 1 = .ok (.getfield 21, 3) := by decide +kernel
theorem dX10_isRight_4 : decode cX10_isRight 4 = .ok (.iconst 0, 1) := by decide +kernel
theorem dX10_isRight_5 : decode cX10_isRight 5 = .ok (.putfield 25, 3) := by decide +kernel
theorem dX10_isRight_8 : decode cX10_isRight 8 = .ok (.iconst 0, 1) := by decide +kernel
theorem dX10_isRight_9 : decode cX10_isRight 9 = .ok (.istore_n 1, 1) := by decide +kernel
theorem dX10_isRight_10 : decode cX10_isRight 10 = .ok (.iload_n 1, 1) := by decide +kernel
theorem dX10_isRight_11 : decode cX10_isRight 11 = .ok (.bipush 16, 2) := by decide +kernel
theorem dX10_isRight_13 : decode cX10_isRight 13 = .ok (.if_icmp .ge 60, 3) := by decide +kernel
theorem dX10_isRight_16 : decode cX10_isRight 16 = .ok (.aload_n 0, 1) := by decide +kernel
theorem dX10_isRight_17 : decode cX10_isRight 17 = .ok (.iload_n 1, 1) := by decide +kernel
theorem dX10_isRight_18 : decode cX10_isRight 18 = .ok (.invokevirtual 31, 3) := by decide +kernel
theorem dX10_isRight_21 : decode cX10_isRight 21 = .ok (.ifCond .ne 5, 3) := by decide +kernel
theorem dX10_isRight_24 : decode cX10_isRight 24 = .ok (.iconst 0, 1) := by decide +kernel
theorem dX10_isRight_25 : decode cX10_isRight 25 = .ok (.ireturn, 1) := by decide +kernel
theorem dX10_isRight_26 : decode cX10_isRight 26 = .ok (.aload_n 0, 1) := by decide +kernel
theorem dX10_isRight_27 : decode cX10_isRight 27 = .ok (.getfield 21, 3) := by decide +kernel
theorem dX10_isRight_30 : decode cX10_isRight 30 = .ok (.invokevirtual 35, 3) := by decide +kernel
theorem dX10_isRight_33 : decode cX10_isRight 33 = .ok (.ifCond .eq 12, 3) := by decide +kernel
theorem dX10_isRight_36 : decode cX10_isRight 36 = .ok (.aload_n 0, 1) := by decide +kernel
theorem dX10_isRight_37 : decode cX10_isRight 37 = .ok (.iload_n 1, 1) := by decide +kernel
theorem dX10_isRight_38 : decode cX10_isRight 38 = .ok (.iconst 1, 1) := by decide +kernel
theorem dX10_isRight_39 : decode cX10_isRight 39 = .ok (.iadd, 1) := by decide +kernel
theorem dX10_isRight_40 : decode cX10_isRight 40 = .ok (.putfield 39, 3) := by decide +kernel
theorem dX10_isRight_43 : decode cX10_isRight 43 = .ok (.iconst 1, 1) := by decide +kernel
theorem dX10_isRight_44 : decode cX10_isRight 44 = .ok (.ireturn, 1) := by decide +kernel
theorem dX10_isRight_45 : decode cX10_isRight 45 = .ok (.iload_n 1, 1) := by decide +kernel
theorem dX10_isRight_46 : decode cX10_isRight 46 = .ok (.iconst 1, 1) := by decide +kernel
theorem dX10_isRight_47 : decode cX10_isRight 47 = .ok (.iadd, 1) := by decide +kernel
theorem dX10_isRight_48 : decode cX10_isRight 48 = .ok (.bipush 16, 2) := by decide +kernel
theorem dX10_isRight_50 : decode cX10_isRight 50 = .ok (.if_icmp .eq 15, 3) := by decide +kernel
theorem dX10_isRight_53 : decode cX10_isRight 53 = .ok (.aload_n 0, 1) := by decide +kernel
theorem dX10_isRight_54 : decode cX10_isRight 54 = .ok (.getfield 21, 3) := by decide +kernel
theorem dX10_isRight_57 : decode cX10_isRight 57 = .ok (.bipush 59, 2) := by decide +kernel
theorem dX10_isRight_59 : decode cX10_isRight 59 = .ok (.invokevirtual 42, 3) := by decide +kernel
theorem dX10_isRight_62 : decode cX10_isRight 62 = .ok (.ifCond .ne 5, 3) := by decide +kernel
theorem dX10_isRight_65 : decode cX10_isRight 65 = .ok (.iconst 0, 1) := by decide +kernel
theorem dX10_isRight_66 : decode cX10_isRight 66 = .ok (.ireturn, 1) := by decide +kernel
theorem dX10_isRight_67 : decode cX10_isRight 67 = .ok (.iinc 1 1, 3) := by decide +kernel
theorem dX10_isRight_70 : decode cX10_isRight 70 = .ok (.goto (-60), 3) := by decide +kernel
theorem dX10_isRight_73 : decode cX10_isRight 73 = .ok (.iconst 0, 1) := by decide +kernel
theorem dX10_isRight_74 : decode cX10_isRight 74 = .ok (.ireturn, 1) := by decide +kernel
def X10_isRight_10 (n : Nat) : Nat → Int32 → Mm → Option (Bool × Mm)
  | 0, _, _ => none
  | f + 1, x1, h => (if (16 : Int32) ≤ x1 then (some (false, h)) else (bd (X10_takeStep n x1 h) (fun r19 h21 => (if r19 = true then (bd (X7_isAtEnd n h21) (fun r22 h24 => (if r22 = true then (some (true, (wI h24 9 4 (x1 + (1 : Int32))))) else (if (x1 + (1 : Int32)) = (16 : Int32) then (some (false, h24)) else (bd (X7_take n (59 : Int32) h24) (fun r25 h27 => (if r25 = true then ((X10_isRight_10 n f) (x1 + (1)) h27) else (some (false, h27))))))))) else (some (false, h21))))))
set_option maxRecDepth 100000 in
set_option maxHeartbeats 4000000 in
theorem v_X10_isRight_10 {X : WX} {G : GX} {o : Mm} {n : Nat} {rv : Bool} {hz : Mm} : ∀ (f : Nat) (x1 : Int32) (h : Mm), X10_isRight_10 n f x1 h = some (rv, hz) → V X G RX10 cX10_isRight 2 (some .boolean) 7 0 0 (QR X G true o (some (.int (b2i rv))) hz) true o 10 [(0, .ref (xa X 9)), (1, .int x1)] [] h := by
  intro f
  induction f with
  | zero => intro x1 h hF; exact nomatch (show (none : Option (Bool × Mm)) = some (rv, hz) from hF)
  | succ f ih =>
    intro x1 h hF
    unfold X10_isRight_10 at hF
    refine V.iload_n 1 dX10_isRight_10 rfl rfl ?_
    refine V.bipush (v := 16) dX10_isRight_11 (by decide) ?_
    refine V.icmp_ge (tgt := 73) dX10_isRight_13 rfl (fun c => ?_) (fun c => ?_)
    · replace hF := ip c hF
      refine V.iconst (v := 0) dX10_isRight_73 rfl ?_
      cases hF
      exact V.bret dX10_isRight_74
    · replace hF := iq c hF
      refine V.aload_n 0 dX10_isRight_16 rfl rfl ?_
      refine V.iload_n 1 dX10_isRight_17 rfl rfl ?_
      obtain ⟨r19, h21, hc20, hF⟩ := bd_s hF
      refine V.callVi mf_X10_takeStep ml_X10_31 sh_9 (s_X10_takeStep hc20) (by decide) rfl rfl (Nat.le_of_ble_eq_true rfl) dX10_isRight_18 ?_
      refine V.ifz_ne (tgt := 26) dX10_isRight_21 rfl (fun c => ?_) (fun c => ?_)
      · replace hF := ip c hF
        refine V.aload_n 0 dX10_isRight_26 rfl rfl ?_
        refine V.getR (v := 1) fl_X10_21 sh_9 rfl fx_9_0 (by decide) dX10_isRight_27 ?_
        obtain ⟨r22, h24, hc23, hF⟩ := bd_s hF
        refine V.callVi mf_X7_isAtEnd ml_X10_35 sh_1 (s_X7_isAtEnd hc23) (by decide) rfl rfl (Nat.le_of_ble_eq_true rfl) dX10_isRight_30 ?_
        refine V.ifz_eq (tgt := 45) dX10_isRight_33 rfl (fun c => ?_) (fun c => ?_)
        · replace hF := iq c hF
          refine V.iload_n 1 dX10_isRight_45 rfl rfl ?_
          refine V.iconst (v := 1) dX10_isRight_46 rfl ?_
          refine V.iadd dX10_isRight_47 ?_
          refine V.bipush (v := 16) dX10_isRight_48 (by decide) ?_
          refine V.icmp_eq (tgt := 65) dX10_isRight_50 rfl (fun c => ?_) (fun c => ?_)
          · replace hF := ip c hF
            refine V.iconst (v := 0) dX10_isRight_65 rfl ?_
            cases hF
            exact V.bret dX10_isRight_66
          · replace hF := iq c hF
            refine V.aload_n 0 dX10_isRight_53 rfl rfl ?_
            refine V.getR (v := 1) fl_X10_21 sh_9 rfl fx_9_0 (by decide) dX10_isRight_54 ?_
            refine V.bipush (v := 59) dX10_isRight_57 (by decide) ?_
            obtain ⟨r25, h27, hc26, hF⟩ := bd_s hF
            refine V.callVi mf_X7_take ml_X10_42 sh_1 (s_X7_take hc26) (by decide) rfl rfl (Nat.le_of_ble_eq_true rfl) dX10_isRight_59 ?_
            refine V.ifz_ne (tgt := 67) dX10_isRight_62 rfl (fun c => ?_) (fun c => ?_)
            · replace hF := ip c hF
              refine V.iinc (v := (x1 + (1))) 1 [(1, _), (0, _)] dX10_isRight_67 rfl rfl (by decide) rfl ?_
              refine V.goto (tgt := 10) dX10_isRight_70 rfl ?_
              exact V.sub [1, 0] rfl (ih _ _ hF)
            · replace hF := iq c hF
              refine V.iconst (v := 0) dX10_isRight_65 rfl ?_
              cases hF
              exact V.bret dX10_isRight_66
        · replace hF := ip c hF
          refine V.aload_n 0 dX10_isRight_36 rfl rfl ?_
          refine V.iload_n 1 dX10_isRight_37 rfl rfl ?_
          refine V.iconst (v := 1) dX10_isRight_38 rfl ?_
          refine V.iadd dX10_isRight_39 ?_
          refine V.putI fl_X10_39 rfl (tyX10_ok 4 (by decide)) rfl rfl sh_9 rfl km_9 dX10_isRight_40 ?_
          refine V.iconst (v := 1) dX10_isRight_43 rfl ?_
          cases hF
          exact V.bret dX10_isRight_44
      · replace hF := iq c hF
        refine V.iconst (v := 0) dX10_isRight_24 rfl ?_
        cases hF
        exact V.bret dX10_isRight_25
def X10_isRight (n : Nat) (h : Mm) : Option (Bool × Mm) := (X10_isRight_10 n n (0 : Int32) (wI h 1 2 (0 : Int32)))
set_option maxRecDepth 100000 in
set_option maxHeartbeats 4000000 in
theorem s_X10_isRight {X : WX} {o : Mm} {n : Nat} {rv : Bool} {hz : Mm} {h : Mm} (hF : X10_isRight n h = some (rv, hz)) : Sat X yX10_isRight cX10_isRight 2 (some .boolean) 7 [.ref (xa X 9)] true o h (some (.int (b2i rv))) hz := by
  unfold X10_isRight at hF
  refine Sat.mk (own := RX10) rfl (by decide +kernel) (Nat.le_of_ble_eq_true rfl) (fun G => ?_)
  refine V.sub (lv2 := [(0, _)]) [0] rfl ?_
  refine V.aload_n 0 dX10_isRight_0 rfl rfl ?_
  refine V.getR (v := 1) fl_X10_21 sh_9 rfl fx_9_0 (by decide) dX10_isRight_1 ?_
  refine V.iconst (v := 0) dX10_isRight_4 rfl ?_
  refine V.putI fl_X10_25 rfl (tyX7_ok 2 (by decide)) rfl rfl sh_1 rfl km_1 dX10_isRight_5 ?_
  refine V.iconst (v := 0) dX10_isRight_8 rfl ?_
  refine V.istore_n [(1, _), (0, _)] dX10_isRight_9 rfl (by decide) rfl ?_
  exact V.sub [1, 0] rfl (v_X10_isRight_10 n _ _ hF)
/-! MonsterCot.isRight -/
theorem dX11_isRight_0 : decode cX11_isRight 0 = .ok (.iload_n 1, 1) := by decide +kernel
theorem dX11_isRight_1 : decode cX11_isRight 1 = .ok (.ifCond .ne 13, 3) := by decide +kernel
theorem dX11_isRight_4 : decode cX11_isRight 4 = .ok (.aload_n 0, 1) := by decide +kernel
theorem dX11_isRight_5 : decode cX11_isRight 5 = .ok (.getfield 21, 3) := by decide +kernel
theorem dX11_isRight_8 : decode cX11_isRight 8 = .ok (.invokevirtual 407, 3) := by decide +kernel
theorem dX11_isRight_11 : decode cX11_isRight 11 = .ok (.goto 25, 3) := by decide +kernel
theorem dX11_isRight_14 : decode cX11_isRight 14 = .ok (.iload_n 1, 1) := by decide +kernel
theorem dX11_isRight_15 : decode cX11_isRight 15 = .ok (.iconst 1, 1) := by decide +kernel
theorem dX11_isRight_16 : decode cX11_isRight 16 = .ok (.if_icmp .ne 13, 3) := by decide +kernel
theorem dX11_isRight_19 : decode cX11_isRight 19 = .ok (.aload_n 0, 1) := by decide +kernel
theorem dX11_isRight_20 : decode cX11_isRight 20 = .ok (.getfield 28, 3) := by decide +kernel
theorem dX11_isRight_23 : decode cX11_isRight 23 = .ok (.invokevirtual 409, 3) := by decide +kernel
theorem dX11_isRight_26 : decode cX11_isRight 26 = .ok (.goto 10, 3) := by decide +kernel
theorem dX11_isRight_29 : decode cX11_isRight 29 = .ok (.aload_n 0, 1) := by decide +kernel
theorem dX11_isRight_30 : decode cX11_isRight 30 = .ok (.getfield 35, 3) := by decide +kernel
theorem dX11_isRight_33 : decode cX11_isRight 33 = .ok (.invokevirtual 410, 3) := by decide +kernel
theorem dX11_isRight_36 : decode cX11_isRight 36 = .ok (.ireturn, 1) := by decide +kernel
def X11_isRight (n : Nat) (x1 : Int32) (h : Mm) : Option (Bool × Mm) := (if x1 = 0 then (bd (X2_isRight n h) (fun r16 h18 => (some (r16, h18)))) else (if x1 = (1 : Int32) then (bd (X3_isRight n h) (fun r13 h15 => (some (r13, h15)))) else (bd (X10_isRight n h) (fun r10 h12 => (some (r10, h12))))))
set_option maxRecDepth 100000 in
set_option maxHeartbeats 4000000 in
theorem s_X11_isRight {X : WX} {o : Mm} {n : Nat} {x1 : Int32} {rv : Bool} {hz : Mm} {h : Mm} (hF : X11_isRight n x1 h = some (rv, hz)) : Sat X yX11_isRight cX11_isRight 2 (some .boolean) 98 [.ref (xa X 0), .int x1] true o h (some (.int (b2i rv))) hz := by
  unfold X11_isRight at hF
  refine Sat.mk (own := RX11) rfl (by decide +kernel) (Nat.le_of_ble_eq_true rfl) (fun G => ?_)
  refine V.sub (lv2 := [(0, _), (1, _)]) [0, 1] rfl ?_
  refine V.iload_n 1 dX11_isRight_0 rfl rfl ?_
  refine V.if_ne (tgt := 14) dX11_isRight_1 rfl (fun c => ?_) (fun c => ?_)
  · replace hF := iq c hF
    refine V.iload_n 1 dX11_isRight_14 rfl rfl ?_
    refine V.iconst (v := 1) dX11_isRight_15 rfl ?_
    refine V.icmp_ne (tgt := 29) dX11_isRight_16 rfl (fun c => ?_) (fun c => ?_)
    · replace hF := iq c hF
      refine V.aload_n 0 dX11_isRight_29 rfl rfl ?_
      refine V.getR (v := 9) fl_X11_35 sh_0 rfl fx_0_3 (by decide) dX11_isRight_30 ?_
      obtain ⟨r10, h12, hc11, hF⟩ := bd_s hF
      refine V.callVi mf_X10_isRight ml_X11_410 sh_9 (s_X10_isRight hc11) (by decide) rfl rfl (Nat.le_of_ble_eq_true rfl) dX11_isRight_33 ?_
      cases hF
      exact V.bret dX11_isRight_36
    · replace hF := ip c hF
      refine V.aload_n 0 dX11_isRight_19 rfl rfl ?_
      refine V.getR (v := 7) fl_X11_28 sh_0 rfl fx_0_2 (by decide) dX11_isRight_20 ?_
      obtain ⟨r13, h15, hc14, hF⟩ := bd_s hF
      refine V.callVi mf_X3_isRight ml_X11_409 sh_7 (s_X3_isRight hc14) (by decide) rfl rfl (Nat.le_of_ble_eq_true rfl) dX11_isRight_23 ?_
      refine V.goto (tgt := 36) dX11_isRight_26 rfl ?_
      cases hF
      exact V.bret dX11_isRight_36
  · replace hF := ip c hF
    refine V.aload_n 0 dX11_isRight_4 rfl rfl ?_
    refine V.getR (v := 3) fl_X11_21 sh_0 rfl fx_0_1 (by decide) dX11_isRight_5 ?_
    obtain ⟨r16, h18, hc17, hF⟩ := bd_s hF
    refine V.callVi mf_X2_isRight ml_X11_407 sh_3 (s_X2_isRight hc17) (by decide) rfl rfl (Nat.le_of_ble_eq_true rfl) dX11_isRight_8 ?_
    refine V.goto (tgt := 36) dX11_isRight_11 rfl ?_
    cases hF
    exact V.bret dX11_isRight_36
/-! MonsterCot.fault -/
theorem dX11_fault_0 : decode cX11_fault 0 = .ok (.iload_n 1, 1) := by decide +kernel
theorem dX11_fault_1 : decode cX11_fault 1 = .ok (.ifCond .lt 8, 3) := by decide +kernel
theorem dX11_fault_4 : decode cX11_fault 4 = .ok (.iload_n 1, 1) := by decide +kernel
theorem dX11_fault_5 : decode cX11_fault 5 = .ok (.iconst 2, 1) := by decide +kernel
theorem dX11_fault_6 : decode cX11_fault 6 = .ok (.if_icmp .le 6, 3) := by decide +kernel
theorem dX11_fault_9 : decode cX11_fault 9 = .ok (.bipush (-2), 2) := by decide +kernel
theorem dX11_fault_11 : decode cX11_fault 11 = .ok (.ireturn, 1) := by decide +kernel
theorem dX11_fault_12 : decode cX11_fault 12 = .ok (.aload_n 0, 1) := by decide +kernel
theorem dX11_fault_13 : decode cX11_fault 13 = .ok (.iload_n 1, 1) := by decide +kernel
theorem dX11_fault_14 : decode cX11_fault 14 = .ok (.invokevirtual 107, 3) := by decide +kernel
theorem dX11_fault_17 : decode cX11_fault 17 = .ok (.ifCond .eq 7, 3) := by decide +kernel
theorem dX11_fault_20 : decode cX11_fault 20 = .ok (.iconst (-1), 1) := by decide +kernel
theorem dX11_fault_21 : decode cX11_fault 21 = .ok (.goto 10, 3) := by decide +kernel
theorem dX11_fault_24 : decode cX11_fault 24 = .ok (.aload_n 0, 1) := by decide +kernel
theorem dX11_fault_25 : decode cX11_fault 25 = .ok (.getfield 10, 3) := by decide +kernel
theorem dX11_fault_28 : decode cX11_fault 28 = .ok (.getfield 110, 3) := by decide +kernel
theorem dX11_fault_31 : decode cX11_fault 31 = .ok (.ireturn, 1) := by decide +kernel
def X11_fault (n : Nat) (x1 : Int32) (h : Mm) : Option (Int32 × Mm) := (if x1 < 0 then (some ((-2 : Int32), h)) else (if x1 ≤ (2 : Int32) then (bd (X11_isRight n x1 h) (fun r4 h6 => (if r4 = true then (some ((-1 : Int32), h6)) else (some ((h6.1 1 2), h6))))) else (some ((-2 : Int32), h))))
set_option maxRecDepth 100000 in
set_option maxHeartbeats 4000000 in
theorem s_X11_fault {X : WX} {o : Mm} {n : Nat} {x1 : Int32} {rv : Int32} {hz : Mm} {h : Mm} (hF : X11_fault n x1 h = some (rv, hz)) : Sat X yX11_fault cX11_fault 2 (some .int) 99 [.ref (xa X 0), .int x1] true o h (some (.int rv)) hz := by
  unfold X11_fault at hF
  refine Sat.mk (own := RX11) rfl (by decide +kernel) (Nat.le_of_ble_eq_true rfl) (fun G => ?_)
  refine V.sub (lv2 := [(0, _), (1, _)]) [0, 1] rfl ?_
  refine V.iload_n 1 dX11_fault_0 rfl rfl ?_
  refine V.if_lt (tgt := 9) dX11_fault_1 rfl (fun c => ?_) (fun c => ?_)
  · replace hF := ip c hF
    refine V.bipush (v := -2) dX11_fault_9 (by decide) ?_
    cases hF
    exact V.iret dX11_fault_11
  · replace hF := iq c hF
    refine V.iload_n 1 dX11_fault_4 rfl rfl ?_
    refine V.iconst (v := 2) dX11_fault_5 rfl ?_
    refine V.icmp_le (tgt := 12) dX11_fault_6 rfl (fun c => ?_) (fun c => ?_)
    · replace hF := ip c hF
      refine V.aload_n 0 dX11_fault_12 rfl rfl ?_
      refine V.iload_n 1 dX11_fault_13 rfl rfl ?_
      obtain ⟨r4, h6, hc5, hF⟩ := bd_s hF
      refine V.callVi mf_X11_isRight ml_X11_107 sh_0 (s_X11_isRight hc5) (by decide) rfl rfl (Nat.le_of_ble_eq_true rfl) dX11_fault_14 ?_
      refine V.ifz_eq (tgt := 24) dX11_fault_17 rfl (fun c => ?_) (fun c => ?_)
      · replace hF := iq c hF
        refine V.aload_n 0 dX11_fault_24 rfl rfl ?_
        refine V.getR (v := 1) fl_X11_10 sh_0 rfl fx_0_0 (by decide) dX11_fault_25 ?_
        refine V.getI fl_X11_110 sh_1 rfl km_1 dX11_fault_28 ?_
        cases hF
        exact V.iret dX11_fault_31
      · replace hF := ip c hF
        refine V.iconst (v := -1) dX11_fault_20 rfl ?_
        refine V.goto (tgt := 31) dX11_fault_21 rfl ?_
        cases hF
        exact V.iret dX11_fault_31
    · replace hF := iq c hF
      refine V.bipush (v := -2) dX11_fault_9 (by decide) ?_
      cases hF
      exact V.iret dX11_fault_11
/-! MonsterCot.copy -/
theorem dX11_copy_0 : decode cX11_copy 0 = .ok (.aload_n 0, 1) := by decide +kernel
theorem dX11_copy_1 : decode cX11_copy 1 = .ok (.iconst 0, 1) := by decide +kernel
theorem dX11_copy_2 : decode cX11_copy 2 = .ok (.aload_n 1, 1) := by decide +kernel
theorem dX11_copy_3 : decode cX11_copy 3 = .ok (.iconst 0, 1) := by decide +kernel
theorem dX11_copy_4 : decode cX11_copy 4 = .ok (.aload_n 0, 1) := by decide +kernel
theorem dX11_copy_5 : decode cX11_copy 5 = .ok (.arraylength, 1) := by decide +kernel
theorem dX11_copy_6 : decode cX11_copy 6 = .ok (.aload_n 1, 1) := by decide +kernel
theorem dX11_copy_7 : decode cX11_copy 7 = .ok (.arraylength, 1) := by decide +kernel
theorem dX11_copy_8 : decode cX11_copy 8 = .ok (.invokestatic 429, 3) := by decide +kernel
theorem dX11_copy_11 : decode cX11_copy 11 = .ok (.invokestatic 441, 3) := by decide +kernel
theorem dX11_copy_14 : decode cX11_copy 14 = .ok (.return_, 1) := by decide +kernel
def X11_copy (a0 : Nat) (a1 : Nat) (h : Mm) : Option (Unit × Mm) := (bp (J9_min_7cf53 (Int32.ofNat (aln a0)) (Int32.ofNat (aln a1)) h) (fun r3 => (if acOK (0 : Int32) (0 : Int32) r3 (aln a0) (aln a1) then (some ((), (wR h a1 (va_cpy (h.1 a0) (h.1 a1) (0 : Int32).toNatClampNeg (0 : Int32).toNatClampNeg r3.toNatClampNeg)))) else none)))
set_option maxRecDepth 100000 in
set_option maxHeartbeats 4000000 in
theorem s_X11_copy {X : WX} {o : Mm} {a0 : Nat} {a1 : Nat} {rv : Unit} {hz : Mm} {h : Mm} (ha0 : isO true 0 a0) (ha1 : isO true 0 a1) (hF : X11_copy a0 a1 h = some (rv, hz)) : Sat X yX11_copy cX11_copy 2 (none) 2 [.ref (xa X a0), .ref (xa X a1)] true o h none hz := by
  unfold X11_copy at hF
  refine Sat.mk (own := RX11) rfl (by decide +kernel) (Nat.le_of_ble_eq_true rfl) (fun G => ?_)
  refine V.sub (lv2 := [(0, _), (1, _)]) [0, 1] rfl ?_
  refine V.aload_n 0 dX11_copy_0 rfl rfl ?_
  refine V.iconst (v := 0) dX11_copy_1 rfl ?_
  refine V.aload_n 1 dX11_copy_2 rfl rfl ?_
  refine V.iconst (v := 0) dX11_copy_3 rfl ?_
  refine V.aload_n 0 dX11_copy_4 rfl rfl ?_
  refine V.alen ha0.1 (by decide) rfl dX11_copy_5 ?_
  refine V.aload_n 1 dX11_copy_6 rfl rfl ?_
  refine V.alen ha1.1 (by decide) rfl dX11_copy_7 ?_
  obtain ⟨r3, hc4, hF⟩ := bp_s hF
  refine V.callSi mf_J9_min_7cf53 ml_X11_429 (s_J9_min_7cf53 hc4) (by decide) rfl rfl (Nat.le_of_ble_eq_true rfl) dX11_copy_8 ?_
  obtain ⟨hk, hF⟩ := ck hF
  refine V.acopy ml_X11_441 ha0 ha1 hk (by omega) (Nat.le_of_ble_eq_true rfl) dX11_copy_11 ?_
  cases hF
  exact V.vret dX11_copy_14
/-! MonsterCot$Land.copyFrom -/
theorem dX1_copyFrom_0 : decode cX1_copyFrom 0 = .ok (.aload_n 1, 1) := by decide +kernel
theorem dX1_copyFrom_1 : decode cX1_copyFrom 1 = .ok (.getfield 9, 3) := by decide +kernel
theorem dX1_copyFrom_4 : decode cX1_copyFrom 4 = .ok (.aload_n 0, 1) := by decide +kernel
theorem dX1_copyFrom_5 : decode cX1_copyFrom 5 = .ok (.getfield 9, 3) := by decide +kernel
theorem dX1_copyFrom_8 : decode cX1_copyFrom 8 = .ok (.invokestatic 49, 3) := by decide +kernel
theorem dX1_copyFrom_11 : decode cX1_copyFrom 11 = .ok (.aload_n 1, 1) := by decide +kernel
theorem dX1_copyFrom_12 : decode cX1_copyFrom 12 = .ok (.getfield 15, 3) := by decide +kernel
theorem dX1_copyFrom_15 : decode cX1_copyFrom 15 = .ok (.aload_n 0, 1) := by decide +kernel
theorem dX1_copyFrom_16 : decode cX1_copyFrom 16 = .ok (.getfield 15, 3) := by decide +kernel
theorem dX1_copyFrom_19 : decode cX1_copyFrom 19 = .ok (.invokestatic 49, 3) := by decide +kernel
theorem dX1_copyFrom_22 : decode cX1_copyFrom 22 = .ok (.return_, 1) := by decide +kernel
def X1_copyFrom (a0 : Nat) (a1 : Nat) (h : Mm) : Option (Unit × Mm) := (bd (X11_copy (a1 + 1) (a0 + 1) h) (fun _ h9 => (bd (X11_copy (a1 + 2) (a0 + 2) h9) (fun _ h12 => (some ((), h12))))))
set_option maxRecDepth 100000 in
set_option maxHeartbeats 4000000 in
theorem s_X1_copyFrom {X : WX} {o : Mm} {a0 : Nat} {a1 : Nat} {rv : Unit} {hz : Mm} {h : Mm} (ha0 : isLd a0) (ha1 : isLd a1) (hF : X1_copyFrom a0 a1 h = some (rv, hz)) : Sat X yX1_copyFrom cX1_copyFrom 2 (none) 3 [.ref (xa X a0), .ref (xa X a1)] true o h none hz := by
  unfold X1_copyFrom at hF
  refine Sat.mk (own := RX1) rfl (by decide +kernel) (Nat.le_of_ble_eq_true rfl) (fun G => ?_)
  refine V.sub (lv2 := [(0, _), (1, _)]) [0, 1] rfl ?_
  refine V.aload_n 1 dX1_copyFrom_0 rfl rfl ?_
  refine V.getR (v := a1 + 1) fl_X1_9 ha1.sh rfl ha1.fx0 (by have := ha1.lt; omega) dX1_copyFrom_1 ?_
  refine V.aload_n 0 dX1_copyFrom_4 rfl rfl ?_
  refine V.getR (v := a0 + 1) fl_X1_9 ha0.sh rfl ha0.fx0 (by have := ha0.lt; omega) dX1_copyFrom_5 ?_
  obtain ⟨r7, h9, hc8, hF⟩ := bd_s hF
  refine V.callNv mf_X11_copy ml_X1_49 (s_X11_copy ha1.a0 ha0.a0 hc8) (by decide) rfl rfl (Nat.le_of_ble_eq_true rfl) dX1_copyFrom_8 ?_
  refine V.aload_n 1 dX1_copyFrom_11 rfl rfl ?_
  refine V.getR (v := a1 + 2) fl_X1_15 ha1.sh rfl ha1.fx1 (by have := ha1.lt; omega) dX1_copyFrom_12 ?_
  refine V.aload_n 0 dX1_copyFrom_15 rfl rfl ?_
  refine V.getR (v := a0 + 2) fl_X1_15 ha0.sh rfl ha0.fx1 (by have := ha0.lt; omega) dX1_copyFrom_16 ?_
  obtain ⟨r10, h12, hc11, hF⟩ := bd_s hF
  refine V.callNv mf_X11_copy ml_X1_49 (s_X11_copy ha1.a1 ha0.a1 hc11) (by decide) rfl rfl (Nat.le_of_ble_eq_true rfl) dX1_copyFrom_19 ?_
  cases hF
  exact V.vret dX1_copyFrom_22
/-! MonsterCot$Land.told -/
theorem dX1_told_0 : decode cX1_told 0 = .ok (.aload_n 0, 1) := by decide +kernel
theorem dX1_told_1 : decode cX1_told 1 = .ok (.getfield 15, 3) := by decide +kernel
theorem dX1_told_4 : decode cX1_told 4 = .ok (.getstatic 46, 3) := by decide +kernel
theorem dX1_told_7 : decode cX1_told 7 = .ok (.iload_n 1, 1) := by decide +kernel
theorem dX1_told_8 : decode cX1_told 8 = .ok (.invokestatic 31, 3) := by decide +kernel
theorem dX1_told_11 : decode cX1_told 11 = .ok (.iload_n 2, 1) := by decide +kernel
theorem dX1_told_12 : decode cX1_told 12 = .ok (.iconst 3, 1) := by decide +kernel
theorem dX1_told_13 : decode cX1_told 13 = .ok (.imul, 1) := by decide +kernel
theorem dX1_told_14 : decode cX1_told 14 = .ok (.iadd, 1) := by decide +kernel
theorem dX1_told_15 : decode cX1_told 15 = .ok (.iload_n 3, 1) := by decide +kernel
theorem dX1_told_16 : decode cX1_told 16 = .ok (.iadd, 1) := by decide +kernel
theorem dX1_told_17 : decode cX1_told 17 = .ok (.invokestatic 31, 3) := by decide +kernel
theorem dX1_told_20 : decode cX1_told 20 = .ok (.ireturn, 1) := by decide +kernel
def X1_told (a0 : Nat) (x1 : Int32) (x2 : Int32) (x3 : Int32) (h : Mm) : Option Int32 := (bp (X11_at 1001 x1 h) (fun r5 => (bp (X11_at (a0 + 2) ((r5 + (x2 * (3 : Int32))) + x3) h) (fun r7 => (some r7)))))
set_option maxRecDepth 100000 in
set_option maxHeartbeats 4000000 in
theorem s_X1_told {X : WX} {o : Mm} {a0 : Nat} {x1 : Int32} {x2 : Int32} {x3 : Int32} {rv : Int32} {h : Mm} (ha0 : isLd a0) (hF : X1_told a0 x1 x2 x3 h = some rv) : Sat X yX1_told cX1_told 4 (some .int) 2 [.ref (xa X a0), .int x1, .int x2, .int x3] true o h (some (.int rv)) h := by
  unfold X1_told at hF
  refine Sat.mk (own := RX1) rfl (by decide +kernel) (Nat.le_of_ble_eq_true rfl) (fun G => ?_)
  refine V.sub (lv2 := [(0, _), (1, _), (2, _), (3, _)]) [0, 1, 2, 3] rfl ?_
  refine V.aload_n 0 dX1_told_0 rfl rfl ?_
  refine V.getR (v := a0 + 2) fl_X1_15 ha0.sh rfl ha0.fx1 (by have := ha0.lt; omega) dX1_told_1 ?_
  refine V.gets zm_1001 sl_X1_46 dX1_told_4 ?_
  refine V.iload_n 1 dX1_told_7 rfl rfl ?_
  obtain ⟨r5, hc6, hF⟩ := bp_s hF
  refine V.callNi mf_X11_at ml_X1_31 (s_X11_at (Or.inr ⟨by decide, by decide⟩) hc6) (by decide) rfl rfl (Nat.le_of_ble_eq_true rfl) dX1_told_8 ?_
  refine V.iload_n 2 dX1_told_11 rfl rfl ?_
  refine V.iconst (v := 3) dX1_told_12 rfl ?_
  refine V.imul dX1_told_13 ?_
  refine V.iadd dX1_told_14 ?_
  refine V.iload_n 3 dX1_told_15 rfl rfl ?_
  refine V.iadd dX1_told_16 ?_
  obtain ⟨r7, hc8, hF⟩ := bp_s hF
  refine V.callNi mf_X11_at ml_X1_31 (s_X11_at (Or.inl ha0.a1) hc8) (by decide) rfl rfl (Nat.le_of_ble_eq_true rfl) dX1_told_17 ?_
  cases hF
  exact V.iret dX1_told_20
/-! MonsterCot$Land.firstVoiceOf -/
theorem dX1_firstVoiceOf_0 : decode cX1_firstVoiceOf 0 = .ok (.aload_n 0, 1) := by decide +kernel
theorem dX1_firstVoiceOf_1 : decode cX1_firstVoiceOf 1 = .ok (.iconst 2, 1) := by decide +kernel
theorem dX1_firstVoiceOf_2 : decode cX1_firstVoiceOf 2 = .ok (.iload_n 1, 1) := by decide +kernel
theorem dX1_firstVoiceOf_3 : decode cX1_firstVoiceOf 3 = .ok (.iconst 2, 1) := by decide +kernel
theorem dX1_firstVoiceOf_4 : decode cX1_firstVoiceOf 4 = .ok (.invokevirtual 60, 3) := by decide +kernel
theorem dX1_firstVoiceOf_7 : decode cX1_firstVoiceOf 7 = .ok (.ireturn, 1) := by decide +kernel
def X1_firstVoiceOf (a0 : Nat) (x1 : Int32) (h : Mm) : Option Int32 := (bp (X1_told a0 (2 : Int32) x1 (2 : Int32) h) (fun r3 => (some r3)))
set_option maxRecDepth 100000 in
set_option maxHeartbeats 4000000 in
theorem s_X1_firstVoiceOf {X : WX} {o : Mm} {a0 : Nat} {x1 : Int32} {rv : Int32} {h : Mm} (ha0 : isLd a0) (hF : X1_firstVoiceOf a0 x1 h = some rv) : Sat X yX1_firstVoiceOf cX1_firstVoiceOf 2 (some .int) 3 [.ref (xa X a0), .int x1] true o h (some (.int rv)) h := by
  unfold X1_firstVoiceOf at hF
  refine Sat.mk (own := RX1) rfl (by decide +kernel) (Nat.le_of_ble_eq_true rfl) (fun G => ?_)
  refine V.sub (lv2 := [(0, _), (1, _)]) [0, 1] rfl ?_
  refine V.aload_n 0 dX1_firstVoiceOf_0 rfl rfl ?_
  refine V.iconst (v := 2) dX1_firstVoiceOf_1 rfl ?_
  refine V.iload_n 1 dX1_firstVoiceOf_2 rfl rfl ?_
  refine V.iconst (v := 2) dX1_firstVoiceOf_3 rfl ?_
  obtain ⟨r3, hc4, hF⟩ := bp_s hF
  refine V.callVi mf_X1_told ml_X1_60 ha0.sh (s_X1_told ha0 hc4) (by decide) rfl rfl (Nat.le_of_ble_eq_true rfl) dX1_firstVoiceOf_4 ?_
  cases hF
  exact V.iret dX1_firstVoiceOf_7
/-! MonsterCot$Land.calmAtFirst -/
theorem dX1_calmAtFirst_0 : decode cX1_calmAtFirst 0 = .ok (.aload_n 0, 1) := by decide +kernel
theorem dX1_calmAtFirst_1 : decode cX1_calmAtFirst 1 = .ok (.iconst 0, 1) := by decide +kernel
theorem dX1_calmAtFirst_2 : decode cX1_calmAtFirst 2 = .ok (.iconst 0, 1) := by decide +kernel
theorem dX1_calmAtFirst_3 : decode cX1_calmAtFirst 3 = .ok (.iconst 0, 1) := by decide +kernel
theorem dX1_calmAtFirst_4 : decode cX1_calmAtFirst 4 = .ok (.invokevirtual 60, 3) := by decide +kernel
theorem dX1_calmAtFirst_7 : decode cX1_calmAtFirst 7 = .ok (.ireturn, 1) := by decide +kernel
def X1_calmAtFirst (a0 : Nat) (h : Mm) : Option Int32 := (bp (X1_told a0 (0 : Int32) (0 : Int32) (0 : Int32) h) (fun r3 => (some r3)))
set_option maxRecDepth 100000 in
set_option maxHeartbeats 4000000 in
theorem s_X1_calmAtFirst {X : WX} {o : Mm} {a0 : Nat} {rv : Int32} {h : Mm} (ha0 : isLd a0) (hF : X1_calmAtFirst a0 h = some rv) : Sat X yX1_calmAtFirst cX1_calmAtFirst 1 (some .int) 3 [.ref (xa X a0)] true o h (some (.int rv)) h := by
  unfold X1_calmAtFirst at hF
  refine Sat.mk (own := RX1) rfl (by decide +kernel) (Nat.le_of_ble_eq_true rfl) (fun G => ?_)
  refine V.sub (lv2 := [(0, _)]) [0] rfl ?_
  refine V.aload_n 0 dX1_calmAtFirst_0 rfl rfl ?_
  refine V.iconst (v := 0) dX1_calmAtFirst_1 rfl ?_
  refine V.iconst (v := 0) dX1_calmAtFirst_2 rfl ?_
  refine V.iconst (v := 0) dX1_calmAtFirst_3 rfl ?_
  obtain ⟨r3, hc4, hF⟩ := bp_s hF
  refine V.callVi mf_X1_told ml_X1_60 ha0.sh (s_X1_told ha0 hc4) (by decide) rfl rfl (Nat.le_of_ble_eq_true rfl) dX1_calmAtFirst_4 ?_
  cases hF
  exact V.iret dX1_calmAtFirst_7
/-! MonsterCot$Bed.forgetEvening -/
theorem dX0_forgetEvening_0 : decode cX0_forgetEvening 0 = .ok (.aload_n 0, 1) := by decide +kernel
theorem dX0_forgetEvening_1 : decode cX0_forgetEvening 1 = .ok (.iconst 0, 1) := by decide +kernel
theorem dX0_forgetEvening_2 : decode cX0_forgetEvening 2 = .ok (.putfield 66, 3) := by decide +kernel
theorem dX0_forgetEvening_5 : decode cX0_forgetEvening 5 = .ok (.aload_n 0, 1) := by decide +kernel
theorem dX0_forgetEvening_6 : decode cX0_forgetEvening 6 = .ok (.iconst 0, 1) := by decide +kernel
theorem dX0_forgetEvening_7 : decode cX0_forgetEvening 7 = .ok (.putfield 69, 3) := by decide +kernel
theorem dX0_forgetEvening_10 : decode cX0_forgetEvening 10 = .ok (.aload_n 0, 1) := by decide +kernel
theorem dX0_forgetEvening_11 : decode cX0_forgetEvening 11 = .ok (.iconst 0, 1) := by decide +kernel
theorem dX0_forgetEvening_12 : decode cX0_forgetEvening 12 = .ok (.putfield 73, 3) := by decide +kernel
theorem dX0_forgetEvening_15 : decode cX0_forgetEvening 15 = .ok (.return_, 1) := by decide +kernel
def X0_forgetEvening (a0 : Nat) (h : Mm) : Option (Unit × Mm) := (some ((), (wI (wI (wI h a0 9 (0 : Int32)) a0 11 (0 : Int32)) a0 12 (0 : Int32))))
set_option maxRecDepth 100000 in
set_option maxHeartbeats 4000000 in
theorem s_X0_forgetEvening {X : WX} {o : Mm} {a0 : Nat} {rv : Unit} {hz : Mm} {h : Mm} (ha0 : isBed a0) (hF : X0_forgetEvening a0 h = some (rv, hz)) : Sat X yX0_forgetEvening cX0_forgetEvening 1 (none) 1 [.ref (xa X a0)] true o h none hz := by
  unfold X0_forgetEvening at hF
  refine Sat.mk (own := RX0) rfl (by decide +kernel) (Nat.le_of_ble_eq_true rfl) (fun G => ?_)
  refine V.sub (lv2 := [(0, _)]) [0] rfl ?_
  refine V.aload_n 0 dX0_forgetEvening_0 rfl rfl ?_
  refine V.iconst (v := 0) dX0_forgetEvening_1 rfl ?_
  refine V.putI fl_X0_66 rfl (tyX0_ok 9 (by decide)) rfl rfl ha0.sh rfl ha0.km dX0_forgetEvening_2 ?_
  refine V.aload_n 0 dX0_forgetEvening_5 rfl rfl ?_
  refine V.iconst (v := 0) dX0_forgetEvening_6 rfl ?_
  refine V.putI fl_X0_69 rfl (tyX0_ok 11 (by decide)) rfl rfl ha0.sh rfl ha0.km dX0_forgetEvening_7 ?_
  refine V.aload_n 0 dX0_forgetEvening_10 rfl rfl ?_
  refine V.iconst (v := 0) dX0_forgetEvening_11 rfl ?_
  refine V.putI fl_X0_73 rfl (tyX0_ok 12 (by decide)) rfl rfl ha0.sh rfl ha0.km dX0_forgetEvening_12 ?_
  cases hF
  exact V.vret dX0_forgetEvening_15
