/-! MonsterCotModel.isGame -/
theorem dX12_isGame_0 : decode cX12_isGame 0 = .ok (.aload_n 0, 1) := by decide +kernel
theorem dX12_isGame_1 : decode cX12_isGame 1 = .ok (.iload_n 1, 1) := by decide +kernel
theorem dX12_isGame_2 : decode cX12_isGame 2 = .ok (.invokevirtual 337, 3) := by decide +kernel
theorem dX12_isGame_5 : decode cX12_isGame 5 = .ok (.ifCond .eq 28, 3) := by decide +kernel
theorem dX12_isGame_8 : decode cX12_isGame 8 = .ok (.aload_n 0, 1) := by decide +kernel
theorem dX12_isGame_9 : decode cX12_isGame 9 = .ok (.iload_n 2, 1) := by decide +kernel
theorem dX12_isGame_10 : decode cX12_isGame 10 = .ok (.invokevirtual 337, 3) := by decide +kernel
theorem dX12_isGame_13 : decode cX12_isGame 13 = .ok (.ifCond .eq 20, 3) := by decide +kernel
theorem dX12_isGame_16 : decode cX12_isGame 16 = .ok (.iload_n 1, 1) := by decide +kernel
theorem dX12_isGame_17 : decode cX12_isGame 17 = .ok (.iload_n 2, 1) := by decide +kernel
theorem dX12_isGame_18 : decode cX12_isGame 18 = .ok (.if_icmp .eq 15, 3) := by decide +kernel
theorem dX12_isGame_21 : decode cX12_isGame 21 = .ok (.aload_n 0, 1) := by decide +kernel
theorem dX12_isGame_22 : decode cX12_isGame 22 = .ok (.iload_n 3, 1) := by decide +kernel
theorem dX12_isGame_23 : decode cX12_isGame 23 = .ok (.invokevirtual 319, 3) := by decide +kernel
theorem dX12_isGame_26 : decode cX12_isGame 26 = .ok (.ifCond .eq 7, 3) := by decide +kernel
theorem dX12_isGame_29 : decode cX12_isGame 29 = .ok (.iconst 1, 1) := by decide +kernel
theorem dX12_isGame_30 : decode cX12_isGame 30 = .ok (.goto 4, 3) := by decide +kernel
theorem dX12_isGame_33 : decode cX12_isGame 33 = .ok (.iconst 0, 1) := by decide +kernel
theorem dX12_isGame_34 : decode cX12_isGame 34 = .ok (.ireturn, 1) := by decide +kernel
def X12_isGame (x1 : Int32) (x2 : Int32) (x3 : Int32) (h : Mm) : Option Bool := (bp (X12_isHouse x1 h) (fun r7 => (if r7 = true then (bp (X12_isHouse x2 h) (fun r9 => (if r9 = true then (if x1 = x2 then (some false) else (bp (X12_isBook x3 h) (fun r11 => (if r11 = true then (some true) else (some false))))) else (some false)))) else (some false))))
set_option maxRecDepth 100000 in
set_option maxHeartbeats 4000000 in
theorem s_X12_isGame {X : WX} {o : Mm} {x1 : Int32} {x2 : Int32} {x3 : Int32} {rv : Bool} {h : Mm} (hF : X12_isGame x1 x2 x3 h = some rv) : Sat X yX12_isGame cX12_isGame 4 (some .boolean) 2 [.ref (xa X 251), .int x1, .int x2, .int x3] false o h (some (.int (b2i rv))) h := by
  unfold X12_isGame at hF
  refine Sat.mk (own := RX12) rfl (by decide +kernel) (Nat.le_of_ble_eq_true rfl) (fun G => ?_)
  refine V.sub (lv2 := [(0, _), (1, _), (2, _), (3, _)]) [0, 1, 2, 3] rfl ?_
  refine V.aload_n 0 dX12_isGame_0 rfl rfl ?_
  refine V.iload_n 1 dX12_isGame_1 rfl rfl ?_
  obtain ⟨r7, hc8, hF⟩ := bp_s hF
  refine V.callVi mf_X12_isHouse ml_X12_337 sh_251 (s_X12_isHouse hc8) (by decide) rfl rfl (Nat.le_of_ble_eq_true rfl) dX12_isGame_2 ?_
  refine V.ifz_eq (tgt := 33) dX12_isGame_5 rfl (fun c => ?_) (fun c => ?_)
  · replace hF := iq c hF
    refine V.iconst (v := 0) dX12_isGame_33 rfl ?_
    cases hF
    exact V.bret dX12_isGame_34
  · replace hF := ip c hF
    refine V.aload_n 0 dX12_isGame_8 rfl rfl ?_
    refine V.iload_n 2 dX12_isGame_9 rfl rfl ?_
    obtain ⟨r9, hc10, hF⟩ := bp_s hF
    refine V.callVi mf_X12_isHouse ml_X12_337 sh_251 (s_X12_isHouse hc10) (by decide) rfl rfl (Nat.le_of_ble_eq_true rfl) dX12_isGame_10 ?_
    refine V.ifz_eq (tgt := 33) dX12_isGame_13 rfl (fun c => ?_) (fun c => ?_)
    · replace hF := iq c hF
      refine V.iconst (v := 0) dX12_isGame_33 rfl ?_
      cases hF
      exact V.bret dX12_isGame_34
    · replace hF := ip c hF
      refine V.iload_n 1 dX12_isGame_16 rfl rfl ?_
      refine V.iload_n 2 dX12_isGame_17 rfl rfl ?_
      refine V.icmp_eq (tgt := 33) dX12_isGame_18 rfl (fun c => ?_) (fun c => ?_)
      · replace hF := ip c hF
        refine V.iconst (v := 0) dX12_isGame_33 rfl ?_
        cases hF
        exact V.bret dX12_isGame_34
      · replace hF := iq c hF
        refine V.aload_n 0 dX12_isGame_21 rfl rfl ?_
        refine V.iload_n 3 dX12_isGame_22 rfl rfl ?_
        obtain ⟨r11, hc12, hF⟩ := bp_s hF
        refine V.callVi mf_X12_isBook ml_X12_319 sh_251 (s_X12_isBook hc12) (by decide) rfl rfl (Nat.le_of_ble_eq_true rfl) dX12_isGame_23 ?_
        refine V.ifz_eq (tgt := 33) dX12_isGame_26 rfl (fun c => ?_) (fun c => ?_)
        · replace hF := iq c hF
          refine V.iconst (v := 0) dX12_isGame_33 rfl ?_
          cases hF
          exact V.bret dX12_isGame_34
        · replace hF := ip c hF
          refine V.iconst (v := 1) dX12_isGame_29 rfl ?_
          refine V.goto (tgt := 34) dX12_isGame_30 rfl ?_
          cases hF
          exact V.bret dX12_isGame_34
/-! MonsterCotModel.calmBy -/
theorem dX12_calmBy_0 : decode cX12_calmBy 0 = .ok (.iload_n 1, 1) := by decide +kernel
theorem dX12_calmBy_1 : decode cX12_calmBy 1 = .ok (.istore 6, 2) := by decide +kernel
theorem dX12_calmBy_3 : decode cX12_calmBy 3 = .ok (.iconst 0, 1) := by decide +kernel
theorem dX12_calmBy_4 : decode cX12_calmBy 4 = .ok (.istore 7, 2) := by decide +kernel
theorem dX12_calmBy_6 : decode cX12_calmBy 6 = .ok (.iload 7, 2) := by decide +kernel
theorem dX12_calmBy_8 : decode cX12_calmBy 8 = .ok (.iload_n 3, 1) := by decide +kernel
theorem dX12_calmBy_9 : decode cX12_calmBy 9 = .ok (.if_icmp .ge 58, 3) := by decide +kernel
theorem dX12_calmBy_12 : decode cX12_calmBy 12 = .ok (.iload 6, 2) := by decide +kernel
theorem dX12_calmBy_14 : decode cX12_calmBy 14 = .ok (.aload_n 0, 1) := by decide +kernel
theorem dX12_calmBy_15 : decode cX12_calmBy 15 = .ok (.iload_n 2, 1) := by decide +kernel
theorem dX12_calmBy_16 : decode cX12_calmBy 16 = .ok (.aload_n 0, 1) := by decide +kernel
theorem dX12_calmBy_17 : decode cX12_calmBy 17 = .ok (.getfield 61, 3) := by decide +kernel
theorem dX12_calmBy_20 : decode cX12_calmBy 20 = .ok (.iconst 3, 1) := by decide +kernel
theorem dX12_calmBy_21 : decode cX12_calmBy 21 = .ok (.iload 4, 2) := by decide +kernel
theorem dX12_calmBy_23 : decode cX12_calmBy 23 = .ok (.imul, 1) := by decide +kernel
theorem dX12_calmBy_24 : decode cX12_calmBy 24 = .ok (.iconst 1, 1) := by decide +kernel
theorem dX12_calmBy_25 : decode cX12_calmBy 25 = .ok (.iadd, 1) := by decide +kernel
theorem dX12_calmBy_26 : decode cX12_calmBy 26 = .ok (.iaload, 1) := by decide +kernel
theorem dX12_calmBy_27 : decode cX12_calmBy 27 = .ok (.iload 5, 2) := by decide +kernel
theorem dX12_calmBy_29 : decode cX12_calmBy 29 = .ok (.iload 7, 2) := by decide +kernel
theorem dX12_calmBy_31 : decode cX12_calmBy 31 = .ok (.aload_n 0, 1) := by decide +kernel
theorem dX12_calmBy_32 : decode cX12_calmBy 32 = .ok (.getfield 61, 3) := by decide +kernel
theorem dX12_calmBy_35 : decode cX12_calmBy 35 = .ok (.bipush 29, 2) := by decide +kernel
theorem dX12_calmBy_37 : decode cX12_calmBy 37 = .ok (.iaload, 1) := by decide +kernel
theorem dX12_calmBy_38 : decode cX12_calmBy 38 = .ok (.aload_n 0, 1) := by decide +kernel
theorem dX12_calmBy_39 : decode cX12_calmBy 39 = .ok (.getfield 61, 3) := by decide +kernel
theorem dX12_calmBy_42 : decode cX12_calmBy 42 = .ok (.iconst 3, 1) := by decide +kernel
theorem dX12_calmBy_43 : decode cX12_calmBy 43 = .ok (.iload 4, 2) := by decide +kernel
theorem dX12_calmBy_45 : decode cX12_calmBy 45 = .ok (.imul, 1) := by decide +kernel
theorem dX12_calmBy_46 : decode cX12_calmBy 46 = .ok (.iconst 0, 1) := by decide +kernel
theorem dX12_calmBy_47 : decode cX12_calmBy 47 = .ok (.iadd, 1) := by decide +kernel
theorem dX12_calmBy_48 : decode cX12_calmBy 48 = .ok (.iaload, 1) := by decide +kernel
theorem dX12_calmBy_49 : decode cX12_calmBy 49 = .ok (.iload 7, 2) := by decide +kernel
theorem dX12_calmBy_51 : decode cX12_calmBy 51 = .ok (.iadd, 1) := by decide +kernel
theorem dX12_calmBy_52 : decode cX12_calmBy 52 = .ok (.invokevirtual 331, 3) := by decide +kernel
theorem dX12_calmBy_55 : decode cX12_calmBy 55 = .ok (.iadd, 1) := by decide +kernel
theorem dX12_calmBy_56 : decode cX12_calmBy 56 = .ok (.invokestatic 334, 3) := by decide +kernel
theorem dX12_calmBy_59 : decode cX12_calmBy 59 = .ok (.istore 6, 2) := by decide +kernel
theorem dX12_calmBy_61 : decode cX12_calmBy 61 = .ok (.iinc 7 1, 3) := by decide +kernel
theorem dX12_calmBy_64 : decode cX12_calmBy 64 = .ok (.goto (-58), 3) := by decide +kernel
theorem dX12_calmBy_67 : decode cX12_calmBy 67 = .ok (.iload 6, 2) := by decide +kernel
theorem dX12_calmBy_69 : decode cX12_calmBy 69 = .ok (.ireturn, 1) := by decide +kernel
def X12_calmBy_6 (n : Nat) : Nat → Int32 → Int32 → Int32 → Int32 → Int32 → Int32 → Mm → Option (Int32 × Mm)
  | 0, _, _, _, _, _, _, _ => none
  | f + 1, x2, x3, x4, x5, x6, x7, h => (if x3 ≤ x7 then (some (x6, h)) else (if inB (((3 : Int32) * x4) + (1 : Int32)) (aln 264) then (if inB (29 : Int32) (aln 264) then (if inB (((3 : Int32) * x4) + (0 : Int32)) (aln 264) then (bd (X12_page n x2 (h.1 264 (((3 : Int32) * x4) + (1 : Int32)).toNatClampNeg) x5 x7 (h.1 264 (29 : Int32).toNatClampNeg) ((h.1 264 (((3 : Int32) * x4) + (0 : Int32)).toNatClampNeg) + x7) h) (fun r11 h13 => (bp (X12_held (x6 + r11) h13) (fun r14 => ((X12_calmBy_6 n f) x2 x3 x4 x5 r14 (x7 + (1)) h13))))) else none) else none) else none))
set_option maxRecDepth 100000 in
set_option maxHeartbeats 4000000 in
theorem v_X12_calmBy_6 {X : WX} {G : GX} {o : Mm} {n : Nat} {rv : Int32} {hz : Mm} : ∀ (f : Nat) (x2 : Int32) (x3 : Int32) (x4 : Int32) (x5 : Int32) (x6 : Int32) (x7 : Int32) (h : Mm), X12_calmBy_6 n f x2 x3 x4 x5 x6 x7 h = some (rv, hz) → V X G RX12 cX12_calmBy 8 (some .int) 91 0 0 (QR X G false o (some (.int rv)) hz) false o 6 [(0, .ref (xa X 251)), (2, .int x2), (3, .int x3), (4, .int x4), (5, .int x5), (6, .int x6), (7, .int x7)] [] h := by
  intro f
  induction f with
  | zero => intro x2 x3 x4 x5 x6 x7 h hF; exact nomatch (show (none : Option (Int32 × Mm)) = some (rv, hz) from hF)
  | succ f ih =>
    intro x2 x3 x4 x5 x6 x7 h hF
    unfold X12_calmBy_6 at hF
    refine V.iload 6 dX12_calmBy_6 rfl ?_
    refine V.iload_n 2 dX12_calmBy_8 rfl rfl ?_
    refine V.icmp_ge (tgt := 67) dX12_calmBy_9 rfl (fun c => ?_) (fun c => ?_)
    · replace hF := ip c hF
      refine V.iload 5 dX12_calmBy_67 rfl ?_
      cases hF
      exact V.iret dX12_calmBy_69
    · replace hF := iq c hF
      refine V.iload 5 dX12_calmBy_12 rfl ?_
      refine V.aload_n 0 dX12_calmBy_14 rfl rfl ?_
      refine V.iload_n 1 dX12_calmBy_15 rfl rfl ?_
      refine V.aload_n 0 dX12_calmBy_16 rfl rfl ?_
      refine V.getR (v := 264) fl_X12_61 sh_251 rfl fx_251_32 (by decide) dX12_calmBy_17 ?_
      refine V.iconst (v := 3) dX12_calmBy_20 rfl ?_
      refine V.iload 3 dX12_calmBy_21 rfl ?_
      refine V.imul dX12_calmBy_23 ?_
      refine V.iconst (v := 1) dX12_calmBy_24 rfl ?_
      refine V.iadd dX12_calmBy_25 ?_
      obtain ⟨hk, hF⟩ := ck hF
      refine V.iald io_264 hk dX12_calmBy_26 ?_
      refine V.iload 4 dX12_calmBy_27 rfl ?_
      refine V.iload 6 dX12_calmBy_29 rfl ?_
      refine V.aload_n 0 dX12_calmBy_31 rfl rfl ?_
      refine V.getR (v := 264) fl_X12_61 sh_251 rfl fx_251_32 (by decide) dX12_calmBy_32 ?_
      refine V.bipush (v := 29) dX12_calmBy_35 (by decide) ?_
      obtain ⟨hk, hF⟩ := ck hF
      refine V.iald io_264 hk dX12_calmBy_37 ?_
      refine V.aload_n 0 dX12_calmBy_38 rfl rfl ?_
      refine V.getR (v := 264) fl_X12_61 sh_251 rfl fx_251_32 (by decide) dX12_calmBy_39 ?_
      refine V.iconst (v := 3) dX12_calmBy_42 rfl ?_
      refine V.iload 3 dX12_calmBy_43 rfl ?_
      refine V.imul dX12_calmBy_45 ?_
      refine V.iconst (v := 0) dX12_calmBy_46 rfl ?_
      refine V.iadd dX12_calmBy_47 ?_
      obtain ⟨hk, hF⟩ := ck hF
      refine V.iald io_264 hk dX12_calmBy_48 ?_
      refine V.iload 6 dX12_calmBy_49 rfl ?_
      refine V.iadd dX12_calmBy_51 ?_
      obtain ⟨r11, h13, hc12, hF⟩ := bd_s hF
      refine V.callVi mf_X12_page ml_X12_331 sh_251 (s_X12_page hc12) (by decide) rfl rfl (Nat.le_of_ble_eq_true rfl) dX12_calmBy_52 ?_
      refine V.iadd dX12_calmBy_55 ?_
      obtain ⟨r14, hc15, hF⟩ := bp_s hF
      refine V.callSi mf_X12_held ml_X12_334 (s_X12_held hc15) (by decide) rfl rfl (Nat.le_of_ble_eq_true rfl) dX12_calmBy_56 ?_
      refine V.istore [(6, _), (0, _), (2, _), (3, _), (4, _), (5, _), (7, _)] dX12_calmBy_59 (by decide) rfl ?_
      refine V.iinc (v := (x7 + (1))) 6 [(7, _), (6, _), (0, _), (2, _), (3, _), (4, _), (5, _)] dX12_calmBy_61 rfl rfl (by decide) rfl ?_
      refine V.goto (tgt := 6) dX12_calmBy_64 rfl ?_
      exact V.sub [2, 3, 4, 5, 6, 1, 0] rfl (ih _ _ _ _ _ _ _ hF)
def X12_calmBy (n : Nat) (x1 : Int32) (x2 : Int32) (x3 : Int32) (x4 : Int32) (x5 : Int32) (h : Mm) : Option (Int32 × Mm) := (X12_calmBy_6 n n x2 x3 x4 x5 x1 (0 : Int32) h)
set_option maxRecDepth 100000 in
set_option maxHeartbeats 4000000 in
theorem s_X12_calmBy {X : WX} {o : Mm} {n : Nat} {x1 : Int32} {x2 : Int32} {x3 : Int32} {x4 : Int32} {x5 : Int32} {rv : Int32} {hz : Mm} {h : Mm} (hF : X12_calmBy n x1 x2 x3 x4 x5 h = some (rv, hz)) : Sat X yX12_calmBy cX12_calmBy 8 (some .int) 91 [.ref (xa X 251), .int x1, .int x2, .int x3, .int x4, .int x5] false o h (some (.int rv)) hz := by
  unfold X12_calmBy at hF
  refine Sat.mk (own := RX12) rfl (by decide +kernel) (Nat.le_of_ble_eq_true rfl) (fun G => ?_)
  refine V.sub (lv2 := [(0, _), (1, _), (2, _), (3, _), (4, _), (5, _)]) [0, 1, 2, 3, 4, 5] rfl ?_
  refine V.iload_n 1 dX12_calmBy_0 rfl rfl ?_
  refine V.istore [(6, _), (0, _), (1, _), (2, _), (3, _), (4, _), (5, _)] dX12_calmBy_1 (by decide) rfl ?_
  refine V.iconst (v := 0) dX12_calmBy_3 rfl ?_
  refine V.istore [(7, _), (6, _), (0, _), (1, _), (2, _), (3, _), (4, _), (5, _)] dX12_calmBy_4 (by decide) rfl ?_
  exact V.sub [2, 4, 5, 6, 7, 1, 0] rfl (v_X12_calmBy_6 n _ _ _ _ _ _ _ hF)
/-! MonsterCotModel.gameOf -/
theorem dX12_gameOf_0 : decode cX12_gameOf 0 = .ok (.aload_n 0, 1) := by decide +kernel
theorem dX12_gameOf_1 : decode cX12_gameOf 1 = .ok (.getfield 61, 3) := by decide +kernel
theorem dX12_gameOf_4 : decode cX12_gameOf 4 = .ok (.bipush 18, 2) := by decide +kernel
theorem dX12_gameOf_6 : decode cX12_gameOf 6 = .ok (.aload_n 0, 1) := by decide +kernel
theorem dX12_gameOf_7 : decode cX12_gameOf 7 = .ok (.iload_n 3, 1) := by decide +kernel
theorem dX12_gameOf_8 : decode cX12_gameOf 8 = .ok (.invokevirtual 328, 3) := by decide +kernel
theorem dX12_gameOf_11 : decode cX12_gameOf 11 = .ok (.iadd, 1) := by decide +kernel
theorem dX12_gameOf_12 : decode cX12_gameOf 12 = .ok (.iaload, 1) := by decide +kernel
theorem dX12_gameOf_13 : decode cX12_gameOf 13 = .ok (.istore 7, 2) := by decide +kernel
theorem dX12_gameOf_15 : decode cX12_gameOf 15 = .ok (.aload_n 0, 1) := by decide +kernel
theorem dX12_gameOf_16 : decode cX12_gameOf 16 = .ok (.aload_n 0, 1) := by decide +kernel
theorem dX12_gameOf_17 : decode cX12_gameOf 17 = .ok (.getfield 61, 3) := by decide +kernel
theorem dX12_gameOf_20 : decode cX12_gameOf 20 = .ok (.bipush 22, 2) := by decide +kernel
theorem dX12_gameOf_22 : decode cX12_gameOf 22 = .ok (.iaload, 1) := by decide +kernel
theorem dX12_gameOf_23 : decode cX12_gameOf 23 = .ok (.iload_n 3, 1) := by decide +kernel
theorem dX12_gameOf_24 : decode cX12_gameOf 24 = .ok (.iload 4, 2) := by decide +kernel
theorem dX12_gameOf_26 : decode cX12_gameOf 26 = .ok (.iload_n 1, 1) := by decide +kernel
theorem dX12_gameOf_27 : decode cX12_gameOf 27 = .ok (.iload 7, 2) := by decide +kernel
theorem dX12_gameOf_29 : decode cX12_gameOf 29 = .ok (.invokevirtual 455, 3) := by decide +kernel
theorem dX12_gameOf_32 : decode cX12_gameOf 32 = .ok (.istore 8, 2) := by decide +kernel
theorem dX12_gameOf_34 : decode cX12_gameOf 34 = .ok (.aload_n 0, 1) := by decide +kernel
theorem dX12_gameOf_35 : decode cX12_gameOf 35 = .ok (.iload 8, 2) := by decide +kernel
theorem dX12_gameOf_37 : decode cX12_gameOf 37 = .ok (.iload_n 3, 1) := by decide +kernel
theorem dX12_gameOf_38 : decode cX12_gameOf 38 = .ok (.iload 5, 2) := by decide +kernel
theorem dX12_gameOf_40 : decode cX12_gameOf 40 = .ok (.iload_n 2, 1) := by decide +kernel
theorem dX12_gameOf_41 : decode cX12_gameOf 41 = .ok (.iload 4, 2) := by decide +kernel
theorem dX12_gameOf_43 : decode cX12_gameOf 43 = .ok (.ifCond .ne 8, 3) := by decide +kernel
theorem dX12_gameOf_46 : decode cX12_gameOf 46 = .ok (.iload 7, 2) := by decide +kernel
theorem dX12_gameOf_48 : decode cX12_gameOf 48 = .ok (.goto 12, 3) := by decide +kernel
theorem dX12_gameOf_51 : decode cX12_gameOf 51 = .ok (.bipush 9, 2) := by decide +kernel
theorem dX12_gameOf_53 : decode cX12_gameOf 53 = .ok (.iload 7, 2) := by decide +kernel
theorem dX12_gameOf_55 : decode cX12_gameOf 55 = .ok (.iconst 1, 1) := by decide +kernel
theorem dX12_gameOf_56 : decode cX12_gameOf 56 = .ok (.iadd, 1) := by decide +kernel
theorem dX12_gameOf_57 : decode cX12_gameOf 57 = .ok (.invokestatic 315, 3) := by decide +kernel
theorem dX12_gameOf_60 : decode cX12_gameOf 60 = .ok (.invokevirtual 455, 3) := by decide +kernel
theorem dX12_gameOf_63 : decode cX12_gameOf 63 = .ok (.istore 8, 2) := by decide +kernel
theorem dX12_gameOf_65 : decode cX12_gameOf 65 = .ok (.iload 6, 2) := by decide +kernel
theorem dX12_gameOf_67 : decode cX12_gameOf 67 = .ok (.ifCond .ne 8, 3) := by decide +kernel
theorem dX12_gameOf_70 : decode cX12_gameOf 70 = .ok (.iload 4, 2) := by decide +kernel
theorem dX12_gameOf_72 : decode cX12_gameOf 72 = .ok (.goto 5, 3) := by decide +kernel
theorem dX12_gameOf_75 : decode cX12_gameOf 75 = .ok (.iload 5, 2) := by decide +kernel
theorem dX12_gameOf_77 : decode cX12_gameOf 77 = .ok (.istore 9, 2) := by decide +kernel
theorem dX12_gameOf_79 : decode cX12_gameOf 79 = .ok (.iload 6, 2) := by decide +kernel
theorem dX12_gameOf_81 : decode cX12_gameOf 81 = .ok (.ifCond .ne 8, 3) := by decide +kernel
theorem dX12_gameOf_84 : decode cX12_gameOf 84 = .ok (.iload 5, 2) := by decide +kernel
theorem dX12_gameOf_86 : decode cX12_gameOf 86 = .ok (.goto 5, 3) := by decide +kernel
theorem dX12_gameOf_89 : decode cX12_gameOf 89 = .ok (.iload 4, 2) := by decide +kernel
theorem dX12_gameOf_91 : decode cX12_gameOf 91 = .ok (.istore 10, 2) := by decide +kernel
theorem dX12_gameOf_93 : decode cX12_gameOf 93 = .ok (.aload_n 0, 1) := by decide +kernel
theorem dX12_gameOf_94 : decode cX12_gameOf 94 = .ok (.iload 8, 2) := by decide +kernel
theorem dX12_gameOf_96 : decode cX12_gameOf 96 = .ok (.invokevirtual 340, 3) := by decide +kernel
theorem dX12_gameOf_99 : decode cX12_gameOf 99 = .ok (.ifCond .eq 9, 3) := by decide +kernel
theorem dX12_gameOf_102 : decode cX12_gameOf 102 = .ok (.bipush 9, 2) := by decide +kernel
theorem dX12_gameOf_104 : decode cX12_gameOf 104 = .ok (.iload 9, 2) := by decide +kernel
theorem dX12_gameOf_106 : decode cX12_gameOf 106 = .ok (.isub, 1) := by decide +kernel
theorem dX12_gameOf_107 : decode cX12_gameOf 107 = .ok (.ireturn, 1) := by decide +kernel
theorem dX12_gameOf_108 : decode cX12_gameOf 108 = .ok (.iload 9, 2) := by decide +kernel
theorem dX12_gameOf_110 : decode cX12_gameOf 110 = .ok (.iload 10, 2) := by decide +kernel
theorem dX12_gameOf_112 : decode cX12_gameOf 112 = .ok (.if_icmp .ge 11, 3) := by decide +kernel
theorem dX12_gameOf_115 : decode cX12_gameOf 115 = .ok (.iload 9, 2) := by decide +kernel
theorem dX12_gameOf_117 : decode cX12_gameOf 117 = .ok (.ineg, 1) := by decide +kernel
theorem dX12_gameOf_118 : decode cX12_gameOf 118 = .ok (.iconst 2, 1) := by decide +kernel
theorem dX12_gameOf_119 : decode cX12_gameOf 119 = .ok (.isub, 1) := by decide +kernel
theorem dX12_gameOf_120 : decode cX12_gameOf 120 = .ok (.goto 6, 3) := by decide +kernel
theorem dX12_gameOf_123 : decode cX12_gameOf 123 = .ok (.iload 9, 2) := by decide +kernel
theorem dX12_gameOf_125 : decode cX12_gameOf 125 = .ok (.ineg, 1) := by decide +kernel
theorem dX12_gameOf_126 : decode cX12_gameOf 126 = .ok (.ireturn, 1) := by decide +kernel
def X12_gameOf_91 (n : Nat) (x8 : Int32) (x9 : Int32) (s0 : Int32) (h : Mm) : Option (Int32 × Mm) := (bp (X12_isEnough x8 h) (fun r33 => (if r33 = true then (some (((9 : Int32) - x9), h)) else (if s0 ≤ x9 then (some ((-x9), h)) else (some (((-x9) - (2 : Int32)), h))))))
set_option maxRecDepth 100000 in
set_option maxHeartbeats 4000000 in
theorem v_X12_gameOf_91 {X : WX} {G : GX} {o : Mm} {n : Nat} {rv : Int32} {hz : Mm} {x8 : Int32} {x9 : Int32} {s0 : Int32} {h : Mm} (hF : X12_gameOf_91 n x8 x9 s0 h = some (rv, hz)) : V X G RX12 cX12_gameOf 11 (some .int) 92 0 0 (QR X G false o (some (.int rv)) hz) false o 91 [(0, .ref (xa X 251)), (8, .int x8), (9, .int x9)] [.int s0] h := by
  unfold X12_gameOf_91 at hF
  refine V.istore [(10, _), (0, _), (8, _), (9, _)] dX12_gameOf_91 (by decide) rfl ?_
  refine V.aload_n 1 dX12_gameOf_93 rfl rfl ?_
  refine V.iload 2 dX12_gameOf_94 rfl ?_
  obtain ⟨r33, hc34, hF⟩ := bp_s hF
  refine V.callVi mf_X12_isEnough ml_X12_340 sh_251 (s_X12_isEnough hc34) (by decide) rfl rfl (Nat.le_of_ble_eq_true rfl) dX12_gameOf_96 ?_
  refine V.ifz_eq (tgt := 108) dX12_gameOf_99 rfl (fun c => ?_) (fun c => ?_)
  · replace hF := iq c hF
    refine V.iload 3 dX12_gameOf_108 rfl ?_
    refine V.iload 0 dX12_gameOf_110 rfl ?_
    refine V.icmp_ge (tgt := 123) dX12_gameOf_112 rfl (fun c => ?_) (fun c => ?_)
    · replace hF := ip c hF
      refine V.iload 3 dX12_gameOf_123 rfl ?_
      refine V.ineg dX12_gameOf_125 ?_
      cases hF
      exact V.iret dX12_gameOf_126
    · replace hF := iq c hF
      refine V.iload 3 dX12_gameOf_115 rfl ?_
      refine V.ineg dX12_gameOf_117 ?_
      refine V.iconst (v := 2) dX12_gameOf_118 rfl ?_
      refine V.isub dX12_gameOf_119 ?_
      refine V.goto (tgt := 126) dX12_gameOf_120 rfl ?_
      cases hF
      exact V.iret dX12_gameOf_126
  · replace hF := ip c hF
    refine V.bipush (v := 9) dX12_gameOf_102 (by decide) ?_
    refine V.iload 3 dX12_gameOf_104 rfl ?_
    refine V.isub dX12_gameOf_106 ?_
    cases hF
    exact V.iret dX12_gameOf_107
def X12_gameOf_77 (n : Nat) (x4 : Int32) (x5 : Int32) (x6 : Int32) (x8 : Int32) (s0 : Int32) (h : Mm) : Option (Int32 × Mm) := (if x6 = 0 then (X12_gameOf_91 n x8 s0 x5 h) else (X12_gameOf_91 n x8 s0 x4 h))
set_option maxRecDepth 100000 in
set_option maxHeartbeats 4000000 in
theorem v_X12_gameOf_77 {X : WX} {G : GX} {o : Mm} {n : Nat} {rv : Int32} {hz : Mm} {x4 : Int32} {x5 : Int32} {x6 : Int32} {x8 : Int32} {s0 : Int32} {h : Mm} (hF : X12_gameOf_77 n x4 x5 x6 x8 s0 h = some (rv, hz)) : V X G RX12 cX12_gameOf 11 (some .int) 92 0 0 (QR X G false o (some (.int rv)) hz) false o 77 [(0, .ref (xa X 251)), (4, .int x4), (5, .int x5), (6, .int x6), (8, .int x8)] [.int s0] h := by
  unfold X12_gameOf_77 at hF
  refine V.istore [(9, _), (0, _), (4, _), (5, _), (6, _), (8, _)] dX12_gameOf_77 (by decide) rfl ?_
  refine V.iload 4 dX12_gameOf_79 rfl ?_
  refine V.if_ne (tgt := 89) dX12_gameOf_81 rfl (fun c => ?_) (fun c => ?_)
  · replace hF := iq c hF
    refine V.iload 2 dX12_gameOf_89 rfl ?_
    exact V.sub [1, 5, 0] rfl (v_X12_gameOf_91 hF)
  · replace hF := ip c hF
    refine V.iload 3 dX12_gameOf_84 rfl ?_
    refine V.goto (tgt := 91) dX12_gameOf_86 rfl ?_
    exact V.sub [1, 5, 0] rfl (v_X12_gameOf_91 hF)
def X12_gameOf_60 (n : Nat) (x4 : Int32) (x5 : Int32) (x6 : Int32) (s1 : Int32) (s2 : Int32) (s3 : Int32) (s4 : Int32) (s5 : Int32) (h : Mm) : Option (Int32 × Mm) := (bd (X12_calmBy n s1 s2 s3 s4 s5 h) (fun r35 h37 => (if x6 = 0 then (X12_gameOf_77 n x4 x5 x6 r35 x4 h37) else (X12_gameOf_77 n x4 x5 x6 r35 x5 h37))))
set_option maxRecDepth 100000 in
set_option maxHeartbeats 4000000 in
theorem v_X12_gameOf_60 {X : WX} {G : GX} {o : Mm} {n : Nat} {rv : Int32} {hz : Mm} {x4 : Int32} {x5 : Int32} {x6 : Int32} {s1 : Int32} {s2 : Int32} {s3 : Int32} {s4 : Int32} {s5 : Int32} {h : Mm} (hF : X12_gameOf_60 n x4 x5 x6 s1 s2 s3 s4 s5 h = some (rv, hz)) : V X G RX12 cX12_gameOf 11 (some .int) 92 0 0 (QR X G false o (some (.int rv)) hz) false o 60 [(0, .ref (xa X 251)), (4, .int x4), (5, .int x5), (6, .int x6)] [.int s5, .int s4, .int s3, .int s2, .int s1, .ref (xa X 251)] h := by
  unfold X12_gameOf_60 at hF
  obtain ⟨r35, h37, hc36, hF⟩ := bd_s hF
  refine V.callVi mf_X12_calmBy ml_X12_455 sh_251 (s_X12_calmBy hc36) (by decide) rfl rfl (Nat.le_of_ble_eq_true rfl) dX12_gameOf_60 ?_
  refine V.istore [(8, _), (0, _), (4, _), (5, _), (6, _)] dX12_gameOf_63 (by decide) rfl ?_
  refine V.iload 4 dX12_gameOf_65 rfl ?_
  refine V.if_ne (tgt := 75) dX12_gameOf_67 rfl (fun c => ?_) (fun c => ?_)
  · replace hF := iq c hF
    refine V.iload 3 dX12_gameOf_75 rfl ?_
    exact V.sub [1, 2, 3, 4, 0] rfl (v_X12_gameOf_77 hF)
  · replace hF := ip c hF
    refine V.iload 2 dX12_gameOf_70 rfl ?_
    refine V.goto (tgt := 77) dX12_gameOf_72 rfl ?_
    exact V.sub [1, 2, 3, 4, 0] rfl (v_X12_gameOf_77 hF)
def X12_gameOf (n : Nat) (x1 : Int32) (x2 : Int32) (x3 : Int32) (x4 : Int32) (x5 : Int32) (x6 : Int32) (h : Mm) : Option (Int32 × Mm) := (bp (X12_kindOf x3 h) (fun r38 => (if inB ((18 : Int32) + r38) (aln 264) then (if inB (22 : Int32) (aln 264) then (bd (X12_calmBy n (h.1 264 (22 : Int32).toNatClampNeg) x3 x4 x1 (h.1 264 ((18 : Int32) + r38).toNatClampNeg) h) (fun r40 h42 => (if x4 = 0 then (X12_gameOf_60 n x4 x5 x6 r40 x3 x5 x2 (h.1 264 ((18 : Int32) + r38).toNatClampNeg) h42) else (bp (J9_min_7cf53 (9 : Int32) ((h.1 264 ((18 : Int32) + r38).toNatClampNeg) + (1 : Int32)) h42) (fun r43 => (X12_gameOf_60 n x4 x5 x6 r40 x3 x5 x2 r43 h42)))))) else none) else none)))
set_option maxRecDepth 100000 in
set_option maxHeartbeats 4000000 in
theorem s_X12_gameOf {X : WX} {o : Mm} {n : Nat} {x1 : Int32} {x2 : Int32} {x3 : Int32} {x4 : Int32} {x5 : Int32} {x6 : Int32} {rv : Int32} {hz : Mm} {h : Mm} (hF : X12_gameOf n x1 x2 x3 x4 x5 x6 h = some (rv, hz)) : Sat X yX12_gameOf cX12_gameOf 11 (some .int) 92 [.ref (xa X 251), .int x1, .int x2, .int x3, .int x4, .int x5, .int x6] false o h (some (.int rv)) hz := by
  unfold X12_gameOf at hF
  refine Sat.mk (own := RX12) rfl (by decide +kernel) (Nat.le_of_ble_eq_true rfl) (fun G => ?_)
  refine V.sub (lv2 := [(0, _), (1, _), (2, _), (3, _), (4, _), (5, _), (6, _)]) [0, 1, 2, 3, 4, 5, 6] rfl ?_
  refine V.aload_n 0 dX12_gameOf_0 rfl rfl ?_
  refine V.getR (v := 264) fl_X12_61 sh_251 rfl fx_251_32 (by decide) dX12_gameOf_1 ?_
  refine V.bipush (v := 18) dX12_gameOf_4 (by decide) ?_
  refine V.aload_n 0 dX12_gameOf_6 rfl rfl ?_
  refine V.iload_n 3 dX12_gameOf_7 rfl rfl ?_
  obtain ⟨r38, hc39, hF⟩ := bp_s hF
  refine V.callVi mf_X12_kindOf ml_X12_328 sh_251 (s_X12_kindOf hc39) (by decide) rfl rfl (Nat.le_of_ble_eq_true rfl) dX12_gameOf_8 ?_
  refine V.iadd dX12_gameOf_11 ?_
  obtain ⟨hk, hF⟩ := ck hF
  refine V.iald io_264 hk dX12_gameOf_12 ?_
  refine V.istore [(7, _), (0, _), (1, _), (2, _), (3, _), (4, _), (5, _), (6, _)] dX12_gameOf_13 (by decide) rfl ?_
  refine V.aload_n 1 dX12_gameOf_15 rfl rfl ?_
  refine V.aload_n 1 dX12_gameOf_16 rfl rfl ?_
  refine V.getR (v := 264) fl_X12_61 sh_251 rfl fx_251_32 (by decide) dX12_gameOf_17 ?_
  refine V.bipush (v := 22) dX12_gameOf_20 (by decide) ?_
  obtain ⟨hk, hF⟩ := ck hF
  refine V.iald io_264 hk dX12_gameOf_22 ?_
  refine V.iload_n 4 dX12_gameOf_23 rfl rfl ?_
  refine V.iload 5 dX12_gameOf_24 rfl ?_
  refine V.iload_n 2 dX12_gameOf_26 rfl rfl ?_
  refine V.iload 0 dX12_gameOf_27 rfl ?_
  obtain ⟨r40, h42, hc41, hF⟩ := bd_s hF
  refine V.callVi mf_X12_calmBy ml_X12_455 sh_251 (s_X12_calmBy hc41) (by decide) rfl rfl (Nat.le_of_ble_eq_true rfl) dX12_gameOf_29 ?_
  refine V.istore [(8, _), (7, _), (0, _), (1, _), (2, _), (3, _), (4, _), (5, _), (6, _)] dX12_gameOf_32 (by decide) rfl ?_
  refine V.aload_n 2 dX12_gameOf_34 rfl rfl ?_
  refine V.iload 0 dX12_gameOf_35 rfl ?_
  refine V.iload_n 5 dX12_gameOf_37 rfl rfl ?_
  refine V.iload 7 dX12_gameOf_38 rfl ?_
  refine V.iload_n 4 dX12_gameOf_40 rfl rfl ?_
  refine V.iload 6 dX12_gameOf_41 rfl ?_
  refine V.if_ne (tgt := 51) dX12_gameOf_43 rfl (fun c => ?_) (fun c => ?_)
  · replace hF := iq c hF
    refine V.bipush (v := 9) dX12_gameOf_51 (by decide) ?_
    refine V.iload 1 dX12_gameOf_53 rfl ?_
    refine V.iconst (v := 1) dX12_gameOf_55 rfl ?_
    refine V.iadd dX12_gameOf_56 ?_
    obtain ⟨r43, hc44, hF⟩ := bp_s hF
    refine V.callSi mf_J9_min_7cf53 ml_X12_315 (s_J9_min_7cf53 hc44) (by decide) rfl rfl (Nat.le_of_ble_eq_true rfl) dX12_gameOf_57 ?_
    exact V.sub [2, 6, 7, 8] rfl (v_X12_gameOf_60 hF)
  · replace hF := ip c hF
    refine V.iload 1 dX12_gameOf_46 rfl ?_
    refine V.goto (tgt := 60) dX12_gameOf_48 rfl ?_
    exact V.sub [2, 6, 7, 8] rfl (v_X12_gameOf_60 hF)
/-! MonsterCotModel.game -/
theorem dX12_game_0 : decode cX12_game 0 = .ok (.aload_n 0, 1) := by decide +kernel
theorem dX12_game_1 : decode cX12_game 1 = .ok (.iconst 0, 1) := by decide +kernel
theorem dX12_game_2 : decode cX12_game 2 = .ok (.putfield 93, 3) := by decide +kernel
theorem dX12_game_5 : decode cX12_game 5 = .ok (.aload_n 0, 1) := by decide +kernel
theorem dX12_game_6 : decode cX12_game 6 = .ok (.iload_n 1, 1) := by decide +kernel
theorem dX12_game_7 : decode cX12_game 7 = .ok (.iload_n 2, 1) := by decide +kernel
theorem dX12_game_8 : decode cX12_game 8 = .ok (.iload_n 3, 1) := by decide +kernel
theorem dX12_game_9 : decode cX12_game 9 = .ok (.invokevirtual 459, 3) := by decide +kernel
theorem dX12_game_12 : decode cX12_game 12 = .ok (.ifCond .eq 62, 3) := by decide +kernel
theorem dX12_game_15 : decode cX12_game 15 = .ok (.iload 4, 2) := by decide +kernel
theorem dX12_game_17 : decode cX12_game 17 = .ok (.i2l, 1) := by decide +kernel
theorem dX12_game_18 : decode cX12_game 18 = .ok (.lconst 0, 1) := by decide +kernel
theorem dX12_game_19 : decode cX12_game 19 = .ok (.aload_n 0, 1) := by decide +kernel
theorem dX12_game_20 : decode cX12_game 20 = .ok (.iload_n 3, 1) := by decide +kernel
theorem dX12_game_21 : decode cX12_game 21 = .ok (.invokevirtual 322, 3) := by decide +kernel
theorem dX12_game_24 : decode cX12_game 24 = .ok (.i2l, 1) := by decide +kernel
theorem dX12_game_25 : decode cX12_game 25 = .ok (.invokestatic 214, 3) := by decide +kernel
theorem dX12_game_28 : decode cX12_game 28 = .ok (.ifCond .eq 46, 3) := by decide +kernel
theorem dX12_game_31 : decode cX12_game 31 = .ok (.iload 5, 2) := by decide +kernel
theorem dX12_game_33 : decode cX12_game 33 = .ok (.i2l, 1) := by decide +kernel
theorem dX12_game_34 : decode cX12_game 34 = .ok (.lconst 0, 1) := by decide +kernel
theorem dX12_game_35 : decode cX12_game 35 = .ok (.aload_n 0, 1) := by decide +kernel
theorem dX12_game_36 : decode cX12_game 36 = .ok (.iload_n 3, 1) := by decide +kernel
theorem dX12_game_37 : decode cX12_game 37 = .ok (.invokevirtual 322, 3) := by decide +kernel
theorem dX12_game_40 : decode cX12_game 40 = .ok (.i2l, 1) := by decide +kernel
theorem dX12_game_41 : decode cX12_game 41 = .ok (.invokestatic 214, 3) := by decide +kernel
theorem dX12_game_44 : decode cX12_game 44 = .ok (.ifCond .eq 30, 3) := by decide +kernel
theorem dX12_game_47 : decode cX12_game 47 = .ok (.iload 6, 2) := by decide +kernel
theorem dX12_game_49 : decode cX12_game 49 = .ok (.i2l, 1) := by decide +kernel
theorem dX12_game_50 : decode cX12_game 50 = .ok (.lconst 0, 1) := by decide +kernel
theorem dX12_game_51 : decode cX12_game 51 = .ok (.lconst 1, 1) := by decide +kernel
theorem dX12_game_52 : decode cX12_game 52 = .ok (.invokestatic 214, 3) := by decide +kernel
theorem dX12_game_55 : decode cX12_game 55 = .ok (.ifCond .eq 19, 3) := by decide +kernel
theorem dX12_game_58 : decode cX12_game 58 = .ok (.aload_n 0, 1) := by decide +kernel
theorem dX12_game_59 : decode cX12_game 59 = .ok (.iload_n 1, 1) := by decide +kernel
theorem dX12_game_60 : decode cX12_game 60 = .ok (.iload_n 2, 1) := by decide +kernel
theorem dX12_game_61 : decode cX12_game 61 = .ok (.iload_n 3, 1) := by decide +kernel
theorem dX12_game_62 : decode cX12_game 62 = .ok (.iload 4, 2) := by decide +kernel
theorem dX12_game_64 : decode cX12_game 64 = .ok (.iload 5, 2) := by decide +kernel
theorem dX12_game_66 : decode cX12_game 66 = .ok (.iload 6, 2) := by decide +kernel
theorem dX12_game_68 : decode cX12_game 68 = .ok (.invokevirtual 463, 3) := by decide +kernel
theorem dX12_game_71 : decode cX12_game 71 = .ok (.goto 6, 3) := by decide +kernel
theorem dX12_game_74 : decode cX12_game 74 = .ok (.ldc_w 400, 3) := by decide +kernel
theorem dX12_game_77 : decode cX12_game 77 = .ok (.ireturn, 1) := by decide +kernel
def X12_game_74 (n : Nat) (h : Mm) : Option (Int32 × Mm) := (some ((-1000000 : Int32), h))
set_option maxRecDepth 100000 in
set_option maxHeartbeats 4000000 in
theorem v_X12_game_74 {X : WX} {G : GX} {o : Mm} {n : Nat} {rv : Int32} {hz : Mm} {h : Mm} (hF : X12_game_74 n h = some (rv, hz)) : V X G RX12 cX12_game 7 (some .int) 93 0 0 (QR X G false o (some (.int rv)) hz) false o 74 [] [] h := by
  unfold X12_game_74 at hF
  refine V.ldcw (v := -1000000) dX12_game_74 kc_X12_400 ?_
  cases hF
  exact V.iret dX12_game_77
def X12_game (n : Nat) (x1 : Int32) (x2 : Int32) (x3 : Int32) (x4 : Int32) (x5 : Int32) (x6 : Int32) (h : Mm) : Option (Int32 × Mm) := (bp (X12_isGame x1 x2 x3 (wI h 251 0 (0 : Int32))) (fun r31 => (if r31 = true then (bp (X12_pagesOf x3 (wI h 251 0 (0 : Int32))) (fun r33 => (bp (X12_isIn x4.toInt64 (0 : Int64) r33.toInt64 (wI h 251 0 (0 : Int32))) (fun r35 => (if r35 = true then (bp (X12_pagesOf x3 (wI h 251 0 (0 : Int32))) (fun r37 => (bp (X12_isIn x5.toInt64 (0 : Int64) r37.toInt64 (wI h 251 0 (0 : Int32))) (fun r39 => (if r39 = true then (bp (X12_isIn x6.toInt64 (0 : Int64) (1 : Int64) (wI h 251 0 (0 : Int32))) (fun r41 => (if r41 = true then (bd (X12_gameOf n x1 x2 x3 x4 x5 x6 (wI h 251 0 (0 : Int32))) (fun r43 h45 => (some (r43, h45)))) else (X12_game_74 n (wI h 251 0 (0 : Int32)))))) else (X12_game_74 n (wI h 251 0 (0 : Int32)))))))) else (X12_game_74 n (wI h 251 0 (0 : Int32)))))))) else (X12_game_74 n (wI h 251 0 (0 : Int32))))))
set_option maxRecDepth 100000 in
set_option maxHeartbeats 4000000 in
theorem s_X12_game {X : WX} {o : Mm} {n : Nat} {x1 : Int32} {x2 : Int32} {x3 : Int32} {x4 : Int32} {x5 : Int32} {x6 : Int32} {rv : Int32} {hz : Mm} {h : Mm} (hF : X12_game n x1 x2 x3 x4 x5 x6 h = some (rv, hz)) : Sat X yX12_game cX12_game 7 (some .int) 93 [.ref (xa X 251), .int x1, .int x2, .int x3, .int x4, .int x5, .int x6] false o h (some (.int rv)) hz := by
  unfold X12_game at hF
  refine Sat.mk (own := RX12) rfl (by decide +kernel) (Nat.le_of_ble_eq_true rfl) (fun G => ?_)
  refine V.sub (lv2 := [(0, _), (1, _), (2, _), (3, _), (4, _), (5, _), (6, _)]) [0, 1, 2, 3, 4, 5, 6] rfl ?_
  refine V.aload_n 0 dX12_game_0 rfl rfl ?_
  refine V.iconst (v := 0) dX12_game_1 rfl ?_
  refine V.putI fl_X12_93 rfl (tyX12_ok 0 (by decide)) rfl rfl sh_251 rfl km_251 dX12_game_2 ?_
  refine V.aload_n 0 dX12_game_5 rfl rfl ?_
  refine V.iload_n 1 dX12_game_6 rfl rfl ?_
  refine V.iload_n 2 dX12_game_7 rfl rfl ?_
  refine V.iload_n 3 dX12_game_8 rfl rfl ?_
  obtain ⟨r31, hc32, hF⟩ := bp_s hF
  refine V.callVi mf_X12_isGame ml_X12_459 sh_251 (s_X12_isGame hc32) (by decide) rfl rfl (Nat.le_of_ble_eq_true rfl) dX12_game_9 ?_
  refine V.ifz_eq (tgt := 74) dX12_game_12 rfl (fun c => ?_) (fun c => ?_)
  · replace hF := iq c hF
    exact V.sub [] rfl (v_X12_game_74 hF)
  · replace hF := ip c hF
    refine V.iload 4 dX12_game_15 rfl ?_
    refine V.i2l dX12_game_17 ?_
    refine V.lconst (v := 0) dX12_game_18 rfl ?_
    refine V.aload_n 0 dX12_game_19 rfl rfl ?_
    refine V.iload_n 3 dX12_game_20 rfl rfl ?_
    obtain ⟨r33, hc34, hF⟩ := bp_s hF
    refine V.callVi mf_X12_pagesOf ml_X12_322 sh_251 (s_X12_pagesOf hc34) (by decide) rfl rfl (Nat.le_of_ble_eq_true rfl) dX12_game_21 ?_
    refine V.i2l dX12_game_24 ?_
    obtain ⟨r35, hc36, hF⟩ := bp_s hF
    refine V.callSi mf_X12_isIn ml_X12_214 (s_X12_isIn hc36) (by decide) rfl rfl (Nat.le_of_ble_eq_true rfl) dX12_game_25 ?_
    refine V.ifz_eq (tgt := 74) dX12_game_28 rfl (fun c => ?_) (fun c => ?_)
    · replace hF := iq c hF
      exact V.sub [] rfl (v_X12_game_74 hF)
    · replace hF := ip c hF
      refine V.iload 5 dX12_game_31 rfl ?_
      refine V.i2l dX12_game_33 ?_
      refine V.lconst (v := 0) dX12_game_34 rfl ?_
      refine V.aload_n 0 dX12_game_35 rfl rfl ?_
      refine V.iload_n 3 dX12_game_36 rfl rfl ?_
      obtain ⟨r37, hc38, hF⟩ := bp_s hF
      refine V.callVi mf_X12_pagesOf ml_X12_322 sh_251 (s_X12_pagesOf hc38) (by decide) rfl rfl (Nat.le_of_ble_eq_true rfl) dX12_game_37 ?_
      refine V.i2l dX12_game_40 ?_
      obtain ⟨r39, hc40, hF⟩ := bp_s hF
      refine V.callSi mf_X12_isIn ml_X12_214 (s_X12_isIn hc40) (by decide) rfl rfl (Nat.le_of_ble_eq_true rfl) dX12_game_41 ?_
      refine V.ifz_eq (tgt := 74) dX12_game_44 rfl (fun c => ?_) (fun c => ?_)
      · replace hF := iq c hF
        exact V.sub [] rfl (v_X12_game_74 hF)
      · replace hF := ip c hF
        refine V.iload 6 dX12_game_47 rfl ?_
        refine V.i2l dX12_game_49 ?_
        refine V.lconst (v := 0) dX12_game_50 rfl ?_
        refine V.lconst (v := 1) dX12_game_51 rfl ?_
        obtain ⟨r41, hc42, hF⟩ := bp_s hF
        refine V.callSi mf_X12_isIn ml_X12_214 (s_X12_isIn hc42) (by decide) rfl rfl (Nat.le_of_ble_eq_true rfl) dX12_game_52 ?_
        refine V.ifz_eq (tgt := 74) dX12_game_55 rfl (fun c => ?_) (fun c => ?_)
        · replace hF := iq c hF
          exact V.sub [] rfl (v_X12_game_74 hF)
        · replace hF := ip c hF
          refine V.aload_n 0 dX12_game_58 rfl rfl ?_
          refine V.iload_n 1 dX12_game_59 rfl rfl ?_
          refine V.iload_n 2 dX12_game_60 rfl rfl ?_
          refine V.iload_n 3 dX12_game_61 rfl rfl ?_
          refine V.iload 4 dX12_game_62 rfl ?_
          refine V.iload 5 dX12_game_64 rfl ?_
          refine V.iload 6 dX12_game_66 rfl ?_
          obtain ⟨r43, h45, hc44, hF⟩ := bd_s hF
          refine V.callVi mf_X12_gameOf ml_X12_463 sh_251 (s_X12_gameOf hc44) (by decide) rfl rfl (Nat.le_of_ble_eq_true rfl) dX12_game_68 ?_
          refine V.goto (tgt := 77) dX12_game_71 rfl ?_
          cases hF
          exact V.iret dX12_game_77
/-! MonsterCotModel.rests -/
theorem dX12_rests_0 : decode cX12_rests 0 = .ok (.aload_n 0, 1) := by decide +kernel
theorem dX12_rests_1 : decode cX12_rests 1 = .ok (.iconst 0, 1) := by decide +kernel
theorem dX12_rests_2 : decode cX12_rests 2 = .ok (.putfield 93, 3) := by decide +kernel
theorem dX12_rests_5 : decode cX12_rests 5 = .ok (.aload_n 0, 1) := by decide +kernel
theorem dX12_rests_6 : decode cX12_rests 6 = .ok (.iload_n 1, 1) := by decide +kernel
theorem dX12_rests_7 : decode cX12_rests 7 = .ok (.iload_n 2, 1) := by decide +kernel
theorem dX12_rests_8 : decode cX12_rests 8 = .ok (.iload_n 3, 1) := by decide +kernel
theorem dX12_rests_9 : decode cX12_rests 9 = .ok (.invokevirtual 459, 3) := by decide +kernel
theorem dX12_rests_12 : decode cX12_rests 12 = .ok (.ifCond .eq 9, 3) := by decide +kernel
theorem dX12_rests_15 : decode cX12_rests 15 = .ok (.iload 4, 2) := by decide +kernel
theorem dX12_rests_17 : decode cX12_rests 17 = .ok (.iconst (-1), 1) := by decide +kernel
theorem dX12_rests_18 : decode cX12_rests 18 = .ok (.if_icmp .ge 5, 3) := by decide +kernel
theorem dX12_rests_21 : decode cX12_rests 21 = .ok (.iconst (-1), 1) := by decide +kernel
theorem dX12_rests_22 : decode cX12_rests 22 = .ok (.ireturn, 1) := by decide +kernel
theorem dX12_rests_23 : decode cX12_rests 23 = .ok (.aload_n 0, 1) := by decide +kernel
theorem dX12_rests_24 : decode cX12_rests 24 = .ok (.iload_n 3, 1) := by decide +kernel
theorem dX12_rests_25 : decode cX12_rests 25 = .ok (.invokevirtual 322, 3) := by decide +kernel
theorem dX12_rests_28 : decode cX12_rests 28 = .ok (.iconst 1, 1) := by decide +kernel
theorem dX12_rests_29 : decode cX12_rests 29 = .ok (.iadd, 1) := by decide +kernel
theorem dX12_rests_30 : decode cX12_rests 30 = .ok (.istore 5, 2) := by decide +kernel
theorem dX12_rests_32 : decode cX12_rests 32 = .ok (.iconst 0, 1) := by decide +kernel
theorem dX12_rests_33 : decode cX12_rests 33 = .ok (.istore 6, 2) := by decide +kernel
theorem dX12_rests_35 : decode cX12_rests 35 = .ok (.iload 6, 2) := by decide +kernel
theorem dX12_rests_37 : decode cX12_rests 37 = .ok (.iconst 2, 1) := by decide +kernel
theorem dX12_rests_38 : decode cX12_rests 38 = .ok (.iload 5, 2) := by decide +kernel
theorem dX12_rests_40 : decode cX12_rests 40 = .ok (.imul, 1) := by decide +kernel
theorem dX12_rests_41 : decode cX12_rests 41 = .ok (.iload 5, 2) := by decide +kernel
theorem dX12_rests_43 : decode cX12_rests 43 = .ok (.imul, 1) := by decide +kernel
theorem dX12_rests_44 : decode cX12_rests 44 = .ok (.if_icmp .ge 41, 3) := by decide +kernel
theorem dX12_rests_47 : decode cX12_rests 47 = .ok (.aload_n 0, 1) := by decide +kernel
theorem dX12_rests_48 : decode cX12_rests 48 = .ok (.getfield 87, 3) := by decide +kernel
theorem dX12_rests_51 : decode cX12_rests 51 = .ok (.iload 6, 2) := by decide +kernel
theorem dX12_rests_53 : decode cX12_rests 53 = .ok (.aload_n 0, 1) := by decide +kernel
theorem dX12_rests_54 : decode cX12_rests 54 = .ok (.iload_n 1, 1) := by decide +kernel
theorem dX12_rests_55 : decode cX12_rests 55 = .ok (.iload_n 2, 1) := by decide +kernel
theorem dX12_rests_56 : decode cX12_rests 56 = .ok (.iload_n 3, 1) := by decide +kernel
theorem dX12_rests_57 : decode cX12_rests 57 = .ok (.iload 6, 2) := by decide +kernel
theorem dX12_rests_59 : decode cX12_rests 59 = .ok (.iconst 2, 1) := by decide +kernel
theorem dX12_rests_60 : decode cX12_rests 60 = .ok (.idiv, 1) := by decide +kernel
theorem dX12_rests_61 : decode cX12_rests 61 = .ok (.iload 5, 2) := by decide +kernel
theorem dX12_rests_63 : decode cX12_rests 63 = .ok (.idiv, 1) := by decide +kernel
theorem dX12_rests_64 : decode cX12_rests 64 = .ok (.iload 6, 2) := by decide +kernel
theorem dX12_rests_66 : decode cX12_rests 66 = .ok (.iconst 2, 1) := by decide +kernel
theorem dX12_rests_67 : decode cX12_rests 67 = .ok (.idiv, 1) := by decide +kernel
theorem dX12_rests_68 : decode cX12_rests 68 = .ok (.iload 5, 2) := by decide +kernel
theorem dX12_rests_70 : decode cX12_rests 70 = .ok (.irem, 1) := by decide +kernel
theorem dX12_rests_71 : decode cX12_rests 71 = .ok (.iload 6, 2) := by decide +kernel
theorem dX12_rests_73 : decode cX12_rests 73 = .ok (.iconst 2, 1) := by decide +kernel
theorem dX12_rests_74 : decode cX12_rests 74 = .ok (.irem, 1) := by decide +kernel
theorem dX12_rests_75 : decode cX12_rests 75 = .ok (.invokevirtual 463, 3) := by decide +kernel
theorem dX12_rests_78 : decode cX12_rests 78 = .ok (.iastore, 1) := by decide +kernel
theorem dX12_rests_79 : decode cX12_rests 79 = .ok (.iinc 6 1, 3) := by decide +kernel
theorem dX12_rests_82 : decode cX12_rests 82 = .ok (.goto (-47), 3) := by decide +kernel
theorem dX12_rests_85 : decode cX12_rests 85 = .ok (.iconst 0, 1) := by decide +kernel
theorem dX12_rests_86 : decode cX12_rests 86 = .ok (.istore 6, 2) := by decide +kernel
theorem dX12_rests_88 : decode cX12_rests 88 = .ok (.iconst 0, 1) := by decide +kernel
theorem dX12_rests_89 : decode cX12_rests 89 = .ok (.istore 7, 2) := by decide +kernel
theorem dX12_rests_91 : decode cX12_rests 91 = .ok (.iload 7, 2) := by decide +kernel
theorem dX12_rests_93 : decode cX12_rests 93 = .ok (.iload 5, 2) := by decide +kernel
theorem dX12_rests_95 : decode cX12_rests 95 = .ok (.if_icmp .ge 153, 3) := by decide +kernel
theorem dX12_rests_98 : decode cX12_rests 98 = .ok (.iconst 0, 1) := by decide +kernel
theorem dX12_rests_99 : decode cX12_rests 99 = .ok (.istore 8, 2) := by decide +kernel
theorem dX12_rests_101 : decode cX12_rests 101 = .ok (.iload 8, 2) := by decide +kernel
theorem dX12_rests_103 : decode cX12_rests 103 = .ok (.iload 5, 2) := by decide +kernel
theorem dX12_rests_105 : decode cX12_rests 105 = .ok (.if_icmp .ge 137, 3) := by decide +kernel
theorem dX12_rests_108 : decode cX12_rests 108 = .ok (.iconst 1, 1) := by decide +kernel
theorem dX12_rests_109 : decode cX12_rests 109 = .ok (.istore 9, 2) := by decide +kernel
theorem dX12_rests_111 : decode cX12_rests 111 = .ok (.iconst 0, 1) := by decide +kernel
theorem dX12_rests_112 : decode cX12_rests 112 = .ok (.istore 10, 2) := by decide +kernel
theorem dX12_rests_114 : decode cX12_rests 114 = .ok (.iload 10, 2) := by decide +kernel
theorem dX12_rests_116 : decode cX12_rests 116 = .ok (.iload 5, 2) := by decide +kernel
theorem dX12_rests_118 : decode cX12_rests 118 = .ok (.if_icmp .ge 91, 3) := by decide +kernel
theorem dX12_rests_121 : decode cX12_rests 121 = .ok (.iload 9, 2) := by decide +kernel
theorem dX12_rests_123 : decode cX12_rests 123 = .ok (.ifCond .eq 77, 3) := by decide +kernel
theorem dX12_rests_126 : decode cX12_rests 126 = .ok (.aload_n 0, 1) := by decide +kernel
theorem dX12_rests_127 : decode cX12_rests 127 = .ok (.getfield 87, 3) := by decide +kernel
theorem dX12_rests_130 : decode cX12_rests 130 = .ok (.iconst 2, 1) := by decide +kernel
theorem dX12_rests_131 : decode cX12_rests 131 = .ok (.iload 5, 2) := by decide +kernel
theorem dX12_rests_133 : decode cX12_rests 133 = .ok (.iload 10, 2) := by decide +kernel
theorem dX12_rests_135 : decode cX12_rests 135 = .ok (.imul, 1) := by decide +kernel
theorem dX12_rests_136 : decode cX12_rests 136 = .ok (.iload 8, 2) := by decide +kernel
theorem dX12_rests_138 : decode cX12_rests 138 = .ok (.iadd, 1) := by decide +kernel
theorem dX12_rests_139 : decode cX12_rests 139 = .ok (.imul, 1) := by decide +kernel
theorem dX12_rests_140 : decode cX12_rests 140 = .ok (.iaload, 1) := by decide +kernel
theorem dX12_rests_141 : decode cX12_rests 141 = .ok (.aload_n 0, 1) := by decide +kernel
theorem dX12_rests_142 : decode cX12_rests 142 = .ok (.getfield 87, 3) := by decide +kernel
theorem dX12_rests_145 : decode cX12_rests 145 = .ok (.iconst 2, 1) := by decide +kernel
theorem dX12_rests_146 : decode cX12_rests 146 = .ok (.iload 5, 2) := by decide +kernel
theorem dX12_rests_148 : decode cX12_rests 148 = .ok (.iload 7, 2) := by decide +kernel
theorem dX12_rests_150 : decode cX12_rests 150 = .ok (.imul, 1) := by decide +kernel
theorem dX12_rests_151 : decode cX12_rests 151 = .ok (.iload 8, 2) := by decide +kernel
theorem dX12_rests_153 : decode cX12_rests 153 = .ok (.iadd, 1) := by decide +kernel
theorem dX12_rests_154 : decode cX12_rests 154 = .ok (.imul, 1) := by decide +kernel
theorem dX12_rests_155 : decode cX12_rests 155 = .ok (.iaload, 1) := by decide +kernel
theorem dX12_rests_156 : decode cX12_rests 156 = .ok (.if_icmp .gt 44, 3) := by decide +kernel
theorem dX12_rests_159 : decode cX12_rests 159 = .ok (.aload_n 0, 1) := by decide +kernel
theorem dX12_rests_160 : decode cX12_rests 160 = .ok (.getfield 87, 3) := by decide +kernel
theorem dX12_rests_163 : decode cX12_rests 163 = .ok (.iconst 2, 1) := by decide +kernel
theorem dX12_rests_164 : decode cX12_rests 164 = .ok (.iload 5, 2) := by decide +kernel
theorem dX12_rests_166 : decode cX12_rests 166 = .ok (.iload 7, 2) := by decide +kernel
theorem dX12_rests_168 : decode cX12_rests 168 = .ok (.imul, 1) := by decide +kernel
theorem dX12_rests_169 : decode cX12_rests 169 = .ok (.iload 10, 2) := by decide +kernel
theorem dX12_rests_171 : decode cX12_rests 171 = .ok (.iadd, 1) := by decide +kernel
theorem dX12_rests_172 : decode cX12_rests 172 = .ok (.imul, 1) := by decide +kernel
theorem dX12_rests_173 : decode cX12_rests 173 = .ok (.iconst 1, 1) := by decide +kernel
theorem dX12_rests_174 : decode cX12_rests 174 = .ok (.iadd, 1) := by decide +kernel
theorem dX12_rests_175 : decode cX12_rests 175 = .ok (.iaload, 1) := by decide +kernel
theorem dX12_rests_176 : decode cX12_rests 176 = .ok (.aload_n 0, 1) := by decide +kernel
theorem dX12_rests_177 : decode cX12_rests 177 = .ok (.getfield 87, 3) := by decide +kernel
theorem dX12_rests_180 : decode cX12_rests 180 = .ok (.iconst 2, 1) := by decide +kernel
theorem dX12_rests_181 : decode cX12_rests 181 = .ok (.iload 5, 2) := by decide +kernel
theorem dX12_rests_183 : decode cX12_rests 183 = .ok (.iload 7, 2) := by decide +kernel
theorem dX12_rests_185 : decode cX12_rests 185 = .ok (.imul, 1) := by decide +kernel
theorem dX12_rests_186 : decode cX12_rests 186 = .ok (.iload 8, 2) := by decide +kernel
theorem dX12_rests_188 : decode cX12_rests 188 = .ok (.iadd, 1) := by decide +kernel
theorem dX12_rests_189 : decode cX12_rests 189 = .ok (.imul, 1) := by decide +kernel
theorem dX12_rests_190 : decode cX12_rests 190 = .ok (.iconst 1, 1) := by decide +kernel
theorem dX12_rests_191 : decode cX12_rests 191 = .ok (.iadd, 1) := by decide +kernel
theorem dX12_rests_192 : decode cX12_rests 192 = .ok (.iaload, 1) := by decide +kernel
theorem dX12_rests_193 : decode cX12_rests 193 = .ok (.if_icmp .gt 7, 3) := by decide +kernel
theorem dX12_rests_196 : decode cX12_rests 196 = .ok (.iconst 1, 1) := by decide +kernel
theorem dX12_rests_197 : decode cX12_rests 197 = .ok (.goto 4, 3) := by decide +kernel
theorem dX12_rests_200 : decode cX12_rests 200 = .ok (.iconst 0, 1) := by decide +kernel
theorem dX12_rests_201 : decode cX12_rests 201 = .ok (.istore 9, 2) := by decide +kernel
theorem dX12_rests_203 : decode cX12_rests 203 = .ok (.iinc 10 1, 3) := by decide +kernel
theorem dX12_rests_206 : decode cX12_rests 206 = .ok (.goto (-92), 3) := by decide +kernel
theorem dX12_rests_209 : decode cX12_rests 209 = .ok (.iload 9, 2) := by decide +kernel
theorem dX12_rests_211 : decode cX12_rests 211 = .ok (.ifCond .ne 6, 3) := by decide +kernel
theorem dX12_rests_214 : decode cX12_rests 214 = .ok (.goto 22, 3) := by decide +kernel
theorem dX12_rests_217 : decode cX12_rests 217 = .ok (.iload 6, 2) := by decide +kernel
theorem dX12_rests_219 : decode cX12_rests 219 = .ok (.iload 4, 2) := by decide +kernel
theorem dX12_rests_221 : decode cX12_rests 221 = .ok (.if_icmp .ne 12, 3) := by decide +kernel
theorem dX12_rests_224 : decode cX12_rests 224 = .ok (.bipush 10, 2) := by decide +kernel
theorem dX12_rests_226 : decode cX12_rests 226 = .ok (.iload 7, 2) := by decide +kernel
theorem dX12_rests_228 : decode cX12_rests 228 = .ok (.imul, 1) := by decide +kernel
theorem dX12_rests_229 : decode cX12_rests 229 = .ok (.iload 8, 2) := by decide +kernel
theorem dX12_rests_231 : decode cX12_rests 231 = .ok (.iadd, 1) := by decide +kernel
theorem dX12_rests_232 : decode cX12_rests 232 = .ok (.ireturn, 1) := by decide +kernel
theorem dX12_rests_233 : decode cX12_rests 233 = .ok (.iinc 6 1, 3) := by decide +kernel
theorem dX12_rests_236 : decode cX12_rests 236 = .ok (.iinc 8 1, 3) := by decide +kernel
theorem dX12_rests_239 : decode cX12_rests 239 = .ok (.goto (-138), 3) := by decide +kernel
theorem dX12_rests_242 : decode cX12_rests 242 = .ok (.iinc 7 1, 3) := by decide +kernel
theorem dX12_rests_245 : decode cX12_rests 245 = .ok (.goto (-154), 3) := by decide +kernel
theorem dX12_rests_248 : decode cX12_rests 248 = .ok (.iload 4, 2) := by decide +kernel
theorem dX12_rests_250 : decode cX12_rests 250 = .ok (.iconst (-1), 1) := by decide +kernel
theorem dX12_rests_251 : decode cX12_rests 251 = .ok (.if_icmp .ne 8, 3) := by decide +kernel
theorem dX12_rests_254 : decode cX12_rests 254 = .ok (.iload 6, 2) := by decide +kernel
theorem dX12_rests_256 : decode cX12_rests 256 = .ok (.goto 4, 3) := by decide +kernel
theorem dX12_rests_259 : decode cX12_rests 259 = .ok (.iconst (-1), 1) := by decide +kernel
theorem dX12_rests_260 : decode cX12_rests 260 = .ok (.ireturn, 1) := by decide +kernel
def X12_rests_201 (n : Nat) (K91 : Int32 → Int32 → Int32 → Int32 → Mm → Option (Int32 × Mm)) (K101 : Int32 → Int32 → Int32 → Int32 → Int32 → Mm → Option (Int32 × Mm)) (K114 : Int32 → Int32 → Int32 → Int32 → Int32 → Bool → Int32 → Mm → Option (Int32 × Mm)) (x4 : Int32) (x5 : Int32) (x6 : Int32) (x7 : Int32) (x8 : Int32) (x10 : Int32) (s0 : Bool) (h : Mm) : Option (Int32 × Mm) := (K114 x4 x5 x6 x7 x8 s0 (x10 + (1)) h)
set_option maxRecDepth 100000 in
set_option maxHeartbeats 4000000 in
theorem v_X12_rests_201 {X : WX} {G : GX} {o : Mm} {n : Nat} {K91 : Int32 → Int32 → Int32 → Int32 → Mm → Option (Int32 × Mm)} {K101 : Int32 → Int32 → Int32 → Int32 → Int32 → Mm → Option (Int32 × Mm)} {K114 : Int32 → Int32 → Int32 → Int32 → Int32 → Bool → Int32 → Mm → Option (Int32 × Mm)} {rv : Int32} {hz : Mm} (hK91 : ∀ (x4 : Int32) (x5 : Int32) (x6 : Int32) (x7 : Int32) (h : Mm), K91 x4 x5 x6 x7 h = some (rv, hz) → V X G RX12 cX12_rests 11 (some .int) 93 0 0 (QR X G false o (some (.int rv)) hz) false o 91 [(0, .ref (xa X 251)), (4, .int x4), (5, .int x5), (6, .int x6), (7, .int x7)] [] h) (hK101 : ∀ (x4 : Int32) (x5 : Int32) (x6 : Int32) (x7 : Int32) (x8 : Int32) (h : Mm), K101 x4 x5 x6 x7 x8 h = some (rv, hz) → V X G RX12 cX12_rests 11 (some .int) 93 0 0 (QR X G false o (some (.int rv)) hz) false o 101 [(0, .ref (xa X 251)), (4, .int x4), (5, .int x5), (6, .int x6), (7, .int x7), (8, .int x8)] [] h) (hK114 : ∀ (x4 : Int32) (x5 : Int32) (x6 : Int32) (x7 : Int32) (x8 : Int32) (x9 : Bool) (x10 : Int32) (h : Mm), K114 x4 x5 x6 x7 x8 x9 x10 h = some (rv, hz) → V X G RX12 cX12_rests 11 (some .int) 93 0 0 (QR X G false o (some (.int rv)) hz) false o 114 [(0, .ref (xa X 251)), (4, .int x4), (5, .int x5), (6, .int x6), (7, .int x7), (8, .int x8), (9, .int (b2i x9)), (10, .int x10)] [] h) {x4 : Int32} {x5 : Int32} {x6 : Int32} {x7 : Int32} {x8 : Int32} {x10 : Int32} {s0 : Bool} {h : Mm} (hF : X12_rests_201 n K91 K101 K114 x4 x5 x6 x7 x8 x10 s0 h = some (rv, hz)) : V X G RX12 cX12_rests 11 (some .int) 93 0 0 (QR X G false o (some (.int rv)) hz) false o 201 [(0, .ref (xa X 251)), (4, .int x4), (5, .int x5), (6, .int x6), (7, .int x7), (8, .int x8), (10, .int x10)] [.int (b2i s0)] h := by
  unfold X12_rests_201 at hF
  refine V.istore [(9, _), (0, _), (4, _), (5, _), (6, _), (7, _), (8, _), (10, _)] dX12_rests_201 (by decide) rfl ?_
  refine V.iinc (v := (x10 + (1))) 7 [(10, _), (9, _), (0, _), (4, _), (5, _), (6, _), (7, _), (8, _)] dX12_rests_203 rfl rfl (by decide) rfl ?_
  refine V.goto (tgt := 114) dX12_rests_206 rfl ?_
  exact V.sub [2, 3, 4, 5, 6, 7, 1, 0] rfl (hK114 _ _ _ _ _ _ _ _ hF)
def X12_rests_200 (n : Nat) (K91 : Int32 → Int32 → Int32 → Int32 → Mm → Option (Int32 × Mm)) (K101 : Int32 → Int32 → Int32 → Int32 → Int32 → Mm → Option (Int32 × Mm)) (K114 : Int32 → Int32 → Int32 → Int32 → Int32 → Bool → Int32 → Mm → Option (Int32 × Mm)) (x4 : Int32) (x5 : Int32) (x6 : Int32) (x7 : Int32) (x8 : Int32) (x10 : Int32) (h : Mm) : Option (Int32 × Mm) := (X12_rests_201 n K91 K101 K114 x4 x5 x6 x7 x8 x10 false h)
set_option maxRecDepth 100000 in
set_option maxHeartbeats 4000000 in
theorem v_X12_rests_200 {X : WX} {G : GX} {o : Mm} {n : Nat} {K91 : Int32 → Int32 → Int32 → Int32 → Mm → Option (Int32 × Mm)} {K101 : Int32 → Int32 → Int32 → Int32 → Int32 → Mm → Option (Int32 × Mm)} {K114 : Int32 → Int32 → Int32 → Int32 → Int32 → Bool → Int32 → Mm → Option (Int32 × Mm)} {rv : Int32} {hz : Mm} (hK91 : ∀ (x4 : Int32) (x5 : Int32) (x6 : Int32) (x7 : Int32) (h : Mm), K91 x4 x5 x6 x7 h = some (rv, hz) → V X G RX12 cX12_rests 11 (some .int) 93 0 0 (QR X G false o (some (.int rv)) hz) false o 91 [(0, .ref (xa X 251)), (4, .int x4), (5, .int x5), (6, .int x6), (7, .int x7)] [] h) (hK101 : ∀ (x4 : Int32) (x5 : Int32) (x6 : Int32) (x7 : Int32) (x8 : Int32) (h : Mm), K101 x4 x5 x6 x7 x8 h = some (rv, hz) → V X G RX12 cX12_rests 11 (some .int) 93 0 0 (QR X G false o (some (.int rv)) hz) false o 101 [(0, .ref (xa X 251)), (4, .int x4), (5, .int x5), (6, .int x6), (7, .int x7), (8, .int x8)] [] h) (hK114 : ∀ (x4 : Int32) (x5 : Int32) (x6 : Int32) (x7 : Int32) (x8 : Int32) (x9 : Bool) (x10 : Int32) (h : Mm), K114 x4 x5 x6 x7 x8 x9 x10 h = some (rv, hz) → V X G RX12 cX12_rests 11 (some .int) 93 0 0 (QR X G false o (some (.int rv)) hz) false o 114 [(0, .ref (xa X 251)), (4, .int x4), (5, .int x5), (6, .int x6), (7, .int x7), (8, .int x8), (9, .int (b2i x9)), (10, .int x10)] [] h) {x4 : Int32} {x5 : Int32} {x6 : Int32} {x7 : Int32} {x8 : Int32} {x10 : Int32} {h : Mm} (hF : X12_rests_200 n K91 K101 K114 x4 x5 x6 x7 x8 x10 h = some (rv, hz)) : V X G RX12 cX12_rests 11 (some .int) 93 0 0 (QR X G false o (some (.int rv)) hz) false o 200 [(0, .ref (xa X 251)), (4, .int x4), (5, .int x5), (6, .int x6), (7, .int x7), (8, .int x8), (10, .int x10)] [] h := by
  unfold X12_rests_200 at hF
  refine V.iconst (v := 0) dX12_rests_200 rfl ?_
  exact (v_X12_rests_201 hK91 hK101 hK114 hF)
def X12_rests_236 (n : Nat) (K91 : Int32 → Int32 → Int32 → Int32 → Mm → Option (Int32 × Mm)) (K101 : Int32 → Int32 → Int32 → Int32 → Int32 → Mm → Option (Int32 × Mm)) (x4 : Int32) (x5 : Int32) (x6 : Int32) (x7 : Int32) (x8 : Int32) (h : Mm) : Option (Int32 × Mm) := (K101 x4 x5 x6 x7 (x8 + (1)) h)
set_option maxRecDepth 100000 in
set_option maxHeartbeats 4000000 in
theorem v_X12_rests_236 {X : WX} {G : GX} {o : Mm} {n : Nat} {K91 : Int32 → Int32 → Int32 → Int32 → Mm → Option (Int32 × Mm)} {K101 : Int32 → Int32 → Int32 → Int32 → Int32 → Mm → Option (Int32 × Mm)} {rv : Int32} {hz : Mm} (hK91 : ∀ (x4 : Int32) (x5 : Int32) (x6 : Int32) (x7 : Int32) (h : Mm), K91 x4 x5 x6 x7 h = some (rv, hz) → V X G RX12 cX12_rests 11 (some .int) 93 0 0 (QR X G false o (some (.int rv)) hz) false o 91 [(0, .ref (xa X 251)), (4, .int x4), (5, .int x5), (6, .int x6), (7, .int x7)] [] h) (hK101 : ∀ (x4 : Int32) (x5 : Int32) (x6 : Int32) (x7 : Int32) (x8 : Int32) (h : Mm), K101 x4 x5 x6 x7 x8 h = some (rv, hz) → V X G RX12 cX12_rests 11 (some .int) 93 0 0 (QR X G false o (some (.int rv)) hz) false o 101 [(0, .ref (xa X 251)), (4, .int x4), (5, .int x5), (6, .int x6), (7, .int x7), (8, .int x8)] [] h) {x4 : Int32} {x5 : Int32} {x6 : Int32} {x7 : Int32} {x8 : Int32} {h : Mm} (hF : X12_rests_236 n K91 K101 x4 x5 x6 x7 x8 h = some (rv, hz)) : V X G RX12 cX12_rests 11 (some .int) 93 0 0 (QR X G false o (some (.int rv)) hz) false o 236 [(0, .ref (xa X 251)), (4, .int x4), (5, .int x5), (6, .int x6), (7, .int x7), (8, .int x8)] [] h := by
  unfold X12_rests_236 at hF
  refine V.iinc (v := (x8 + (1))) 5 [(8, _), (0, _), (4, _), (5, _), (6, _), (7, _)] dX12_rests_236 rfl rfl (by decide) rfl ?_
  refine V.goto (tgt := 101) dX12_rests_239 rfl ?_
  exact V.sub [1, 2, 3, 4, 5, 0] rfl (hK101 _ _ _ _ _ _ hF)
def X12_rests_114 (n : Nat) (K91 : Int32 → Int32 → Int32 → Int32 → Mm → Option (Int32 × Mm)) (K101 : Int32 → Int32 → Int32 → Int32 → Int32 → Mm → Option (Int32 × Mm)) : Nat → Int32 → Int32 → Int32 → Int32 → Int32 → Bool → Int32 → Mm → Option (Int32 × Mm)
  | 0, _, _, _, _, _, _, _, _ => none
  | f + 1, x4, x5, x6, x7, x8, x9, x10, h => (if x5 ≤ x10 then (if x9 = true then (if x6 = x4 then (some ((((10 : Int32) * x7) + x8), h)) else (X12_rests_236 n K91 K101 x4 x5 (x6 + (1)) x7 x8 h)) else (X12_rests_236 n K91 K101 x4 x5 x6 x7 x8 h)) else (if x9 = true then (if inB ((2 : Int32) * ((x5 * x10) + x8)) (aln 271) then (if inB ((2 : Int32) * ((x5 * x7) + x8)) (aln 271) then (if (h.1 271 ((2 : Int32) * ((x5 * x7) + x8)).toNatClampNeg) < (h.1 271 ((2 : Int32) * ((x5 * x10) + x8)).toNatClampNeg) then (X12_rests_200 n K91 K101 (X12_rests_114 n K91 K101 f) x4 x5 x6 x7 x8 x10 h) else (if inB (((2 : Int32) * ((x5 * x7) + x10)) + (1 : Int32)) (aln 271) then (if inB (((2 : Int32) * ((x5 * x7) + x8)) + (1 : Int32)) (aln 271) then (if (h.1 271 (((2 : Int32) * ((x5 * x7) + x8)) + (1 : Int32)).toNatClampNeg) < (h.1 271 (((2 : Int32) * ((x5 * x7) + x10)) + (1 : Int32)).toNatClampNeg) then (X12_rests_200 n K91 K101 (X12_rests_114 n K91 K101 f) x4 x5 x6 x7 x8 x10 h) else (X12_rests_201 n K91 K101 (X12_rests_114 n K91 K101 f) x4 x5 x6 x7 x8 x10 true h)) else none) else none)) else none) else none) else (X12_rests_200 n K91 K101 (X12_rests_114 n K91 K101 f) x4 x5 x6 x7 x8 x10 h)))
set_option maxRecDepth 100000 in
set_option maxHeartbeats 4000000 in
theorem v_X12_rests_114 {X : WX} {G : GX} {o : Mm} {n : Nat} {K91 : Int32 → Int32 → Int32 → Int32 → Mm → Option (Int32 × Mm)} {K101 : Int32 → Int32 → Int32 → Int32 → Int32 → Mm → Option (Int32 × Mm)} {rv : Int32} {hz : Mm} (hK91 : ∀ (x4 : Int32) (x5 : Int32) (x6 : Int32) (x7 : Int32) (h : Mm), K91 x4 x5 x6 x7 h = some (rv, hz) → V X G RX12 cX12_rests 11 (some .int) 93 0 0 (QR X G false o (some (.int rv)) hz) false o 91 [(0, .ref (xa X 251)), (4, .int x4), (5, .int x5), (6, .int x6), (7, .int x7)] [] h) (hK101 : ∀ (x4 : Int32) (x5 : Int32) (x6 : Int32) (x7 : Int32) (x8 : Int32) (h : Mm), K101 x4 x5 x6 x7 x8 h = some (rv, hz) → V X G RX12 cX12_rests 11 (some .int) 93 0 0 (QR X G false o (some (.int rv)) hz) false o 101 [(0, .ref (xa X 251)), (4, .int x4), (5, .int x5), (6, .int x6), (7, .int x7), (8, .int x8)] [] h) : ∀ (f : Nat) (x4 : Int32) (x5 : Int32) (x6 : Int32) (x7 : Int32) (x8 : Int32) (x9 : Bool) (x10 : Int32) (h : Mm), X12_rests_114 n K91 K101 f x4 x5 x6 x7 x8 x9 x10 h = some (rv, hz) → V X G RX12 cX12_rests 11 (some .int) 93 0 0 (QR X G false o (some (.int rv)) hz) false o 114 [(0, .ref (xa X 251)), (4, .int x4), (5, .int x5), (6, .int x6), (7, .int x7), (8, .int x8), (9, .int (b2i x9)), (10, .int x10)] [] h := by
  intro f
  induction f with
  | zero => intro x4 x5 x6 x7 x8 x9 x10 h hF; exact nomatch (show (none : Option (Int32 × Mm)) = some (rv, hz) from hF)
  | succ f ih =>
    intro x4 x5 x6 x7 x8 x9 x10 h hF
    unfold X12_rests_114 at hF
    refine V.iload 7 dX12_rests_114 rfl ?_
    refine V.iload 2 dX12_rests_116 rfl ?_
    refine V.icmp_ge (tgt := 209) dX12_rests_118 rfl (fun c => ?_) (fun c => ?_)
    · replace hF := ip c hF
      refine V.iload 6 dX12_rests_209 rfl ?_
      refine V.ifz_ne (tgt := 217) dX12_rests_211 rfl (fun c => ?_) (fun c => ?_)
      · replace hF := ip c hF
        refine V.iload 3 dX12_rests_217 rfl ?_
        refine V.iload 1 dX12_rests_219 rfl ?_
        refine V.icmp_ne (tgt := 233) dX12_rests_221 rfl (fun c => ?_) (fun c => ?_)
        · replace hF := iq c hF
          refine V.iinc (v := (x6 + (1))) 3 [(6, _), (0, _), (4, _), (5, _), (7, _), (8, _), (9, _), (10, _)] dX12_rests_233 rfl rfl (by decide) rfl ?_
          exact V.sub [1, 2, 3, 0, 4, 5] rfl (v_X12_rests_236 hK91 hK101 hF)
        · replace hF := ip c hF
          refine V.bipush (v := 10) dX12_rests_224 (by decide) ?_
          refine V.iload 4 dX12_rests_226 rfl ?_
          refine V.imul dX12_rests_228 ?_
          refine V.iload 5 dX12_rests_229 rfl ?_
          refine V.iadd dX12_rests_231 ?_
          cases hF
          exact V.iret dX12_rests_232
      · replace hF := iq c hF
        refine V.goto (tgt := 236) dX12_rests_214 rfl ?_
        exact V.sub [0, 1, 2, 3, 4, 5] rfl (v_X12_rests_236 hK91 hK101 hF)
    · replace hF := iq c hF
      refine V.iload 6 dX12_rests_121 rfl ?_
      refine V.ifz_eq (tgt := 200) dX12_rests_123 rfl (fun c => ?_) (fun c => ?_)
      · replace hF := iq c hF
        exact V.sub [0, 1, 2, 3, 4, 5, 7] rfl (v_X12_rests_200 hK91 hK101 ih hF)
      · replace hF := ip c hF
        refine V.aload_n 0 dX12_rests_126 rfl rfl ?_
        refine V.getR (v := 271) fl_X12_87 sh_251 rfl fx_251_48 (by decide) dX12_rests_127 ?_
        refine V.iconst (v := 2) dX12_rests_130 rfl ?_
        refine V.iload 2 dX12_rests_131 rfl ?_
        refine V.iload 7 dX12_rests_133 rfl ?_
        refine V.imul dX12_rests_135 ?_
        refine V.iload 5 dX12_rests_136 rfl ?_
        refine V.iadd dX12_rests_138 ?_
        refine V.imul dX12_rests_139 ?_
        obtain ⟨hk, hF⟩ := ck hF
        refine V.iald io_271 hk dX12_rests_140 ?_
        refine V.aload_n 0 dX12_rests_141 rfl rfl ?_
        refine V.getR (v := 271) fl_X12_87 sh_251 rfl fx_251_48 (by decide) dX12_rests_142 ?_
        refine V.iconst (v := 2) dX12_rests_145 rfl ?_
        refine V.iload 2 dX12_rests_146 rfl ?_
        refine V.iload 4 dX12_rests_148 rfl ?_
        refine V.imul dX12_rests_150 ?_
        refine V.iload 5 dX12_rests_151 rfl ?_
        refine V.iadd dX12_rests_153 ?_
        refine V.imul dX12_rests_154 ?_
        obtain ⟨hk, hF⟩ := ck hF
        refine V.iald io_271 hk dX12_rests_155 ?_
        refine V.icmp_gt (tgt := 200) dX12_rests_156 rfl (fun c => ?_) (fun c => ?_)
        · replace hF := ip c hF
          exact V.sub [0, 1, 2, 3, 4, 5, 7] rfl (v_X12_rests_200 hK91 hK101 ih hF)
        · replace hF := iq c hF
          refine V.aload_n 0 dX12_rests_159 rfl rfl ?_
          refine V.getR (v := 271) fl_X12_87 sh_251 rfl fx_251_48 (by decide) dX12_rests_160 ?_
          refine V.iconst (v := 2) dX12_rests_163 rfl ?_
          refine V.iload 2 dX12_rests_164 rfl ?_
          refine V.iload 4 dX12_rests_166 rfl ?_
          refine V.imul dX12_rests_168 ?_
          refine V.iload 7 dX12_rests_169 rfl ?_
          refine V.iadd dX12_rests_171 ?_
          refine V.imul dX12_rests_172 ?_
          refine V.iconst (v := 1) dX12_rests_173 rfl ?_
          refine V.iadd dX12_rests_174 ?_
          obtain ⟨hk, hF⟩ := ck hF
          refine V.iald io_271 hk dX12_rests_175 ?_
          refine V.aload_n 0 dX12_rests_176 rfl rfl ?_
          refine V.getR (v := 271) fl_X12_87 sh_251 rfl fx_251_48 (by decide) dX12_rests_177 ?_
          refine V.iconst (v := 2) dX12_rests_180 rfl ?_
          refine V.iload 2 dX12_rests_181 rfl ?_
          refine V.iload 4 dX12_rests_183 rfl ?_
          refine V.imul dX12_rests_185 ?_
          refine V.iload 5 dX12_rests_186 rfl ?_
          refine V.iadd dX12_rests_188 ?_
          refine V.imul dX12_rests_189 ?_
          refine V.iconst (v := 1) dX12_rests_190 rfl ?_
          refine V.iadd dX12_rests_191 ?_
          obtain ⟨hk, hF⟩ := ck hF
          refine V.iald io_271 hk dX12_rests_192 ?_
          refine V.icmp_gt (tgt := 200) dX12_rests_193 rfl (fun c => ?_) (fun c => ?_)
          · replace hF := ip c hF
            exact V.sub [0, 1, 2, 3, 4, 5, 7] rfl (v_X12_rests_200 hK91 hK101 ih hF)
          · replace hF := iq c hF
            refine V.iconst (v := 1) dX12_rests_196 rfl ?_
            refine V.goto (tgt := 201) dX12_rests_197 rfl ?_
            exact V.sub [0, 1, 2, 3, 4, 5, 7] rfl (v_X12_rests_201 hK91 hK101 ih hF)
def X12_rests_101 (n : Nat) (K91 : Int32 → Int32 → Int32 → Int32 → Mm → Option (Int32 × Mm)) : Nat → Int32 → Int32 → Int32 → Int32 → Int32 → Mm → Option (Int32 × Mm)
  | 0, _, _, _, _, _, _ => none
  | f + 1, x4, x5, x6, x7, x8, h => (if x5 ≤ x8 then (K91 x4 x5 x6 (x7 + (1)) h) else (X12_rests_114 n K91 (X12_rests_101 n K91 f) n x4 x5 x6 x7 x8 true (0 : Int32) h))
set_option maxRecDepth 100000 in
set_option maxHeartbeats 4000000 in
theorem v_X12_rests_101 {X : WX} {G : GX} {o : Mm} {n : Nat} {K91 : Int32 → Int32 → Int32 → Int32 → Mm → Option (Int32 × Mm)} {rv : Int32} {hz : Mm} (hK91 : ∀ (x4 : Int32) (x5 : Int32) (x6 : Int32) (x7 : Int32) (h : Mm), K91 x4 x5 x6 x7 h = some (rv, hz) → V X G RX12 cX12_rests 11 (some .int) 93 0 0 (QR X G false o (some (.int rv)) hz) false o 91 [(0, .ref (xa X 251)), (4, .int x4), (5, .int x5), (6, .int x6), (7, .int x7)] [] h) : ∀ (f : Nat) (x4 : Int32) (x5 : Int32) (x6 : Int32) (x7 : Int32) (x8 : Int32) (h : Mm), X12_rests_101 n K91 f x4 x5 x6 x7 x8 h = some (rv, hz) → V X G RX12 cX12_rests 11 (some .int) 93 0 0 (QR X G false o (some (.int rv)) hz) false o 101 [(0, .ref (xa X 251)), (4, .int x4), (5, .int x5), (6, .int x6), (7, .int x7), (8, .int x8)] [] h := by
  intro f
  induction f with
  | zero => intro x4 x5 x6 x7 x8 h hF; exact nomatch (show (none : Option (Int32 × Mm)) = some (rv, hz) from hF)
  | succ f ih =>
    intro x4 x5 x6 x7 x8 h hF
    unfold X12_rests_101 at hF
    refine V.iload 5 dX12_rests_101 rfl ?_
    refine V.iload 2 dX12_rests_103 rfl ?_
    refine V.icmp_ge (tgt := 242) dX12_rests_105 rfl (fun c => ?_) (fun c => ?_)
    · replace hF := ip c hF
      refine V.iinc (v := (x7 + (1))) 4 [(7, _), (0, _), (4, _), (5, _), (6, _), (8, _)] dX12_rests_242 rfl rfl (by decide) rfl ?_
      refine V.goto (tgt := 91) dX12_rests_245 rfl ?_
      exact V.sub [1, 2, 3, 4, 0] rfl (hK91 _ _ _ _ _ hF)
    · replace hF := iq c hF
      refine V.iconst (v := 1) dX12_rests_108 rfl ?_
      refine V.istore [(9, _), (0, _), (4, _), (5, _), (6, _), (7, _), (8, _)] dX12_rests_109 (by decide) rfl ?_
      refine V.iconst (v := 0) dX12_rests_111 rfl ?_
      refine V.istore [(10, _), (9, _), (0, _), (4, _), (5, _), (6, _), (7, _), (8, _)] dX12_rests_112 (by decide) rfl ?_
      exact V.sub [2, 3, 4, 5, 6, 7, 1, 0] rfl (v_X12_rests_114 hK91 ih n _ _ _ _ _ _ _ _ hF)
def X12_rests_91 (n : Nat) : Nat → Int32 → Int32 → Int32 → Int32 → Mm → Option (Int32 × Mm)
  | 0, _, _, _, _, _ => none
  | f + 1, x4, x5, x6, x7, h => (if x5 ≤ x7 then (if x4 = (-1 : Int32) then (some (x6, h)) else (some ((-1 : Int32), h))) else (X12_rests_101 n (X12_rests_91 n f) n x4 x5 x6 x7 (0 : Int32) h))
set_option maxRecDepth 100000 in
set_option maxHeartbeats 4000000 in
theorem v_X12_rests_91 {X : WX} {G : GX} {o : Mm} {n : Nat} {rv : Int32} {hz : Mm} : ∀ (f : Nat) (x4 : Int32) (x5 : Int32) (x6 : Int32) (x7 : Int32) (h : Mm), X12_rests_91 n f x4 x5 x6 x7 h = some (rv, hz) → V X G RX12 cX12_rests 11 (some .int) 93 0 0 (QR X G false o (some (.int rv)) hz) false o 91 [(0, .ref (xa X 251)), (4, .int x4), (5, .int x5), (6, .int x6), (7, .int x7)] [] h := by
  intro f
  induction f with
  | zero => intro x4 x5 x6 x7 h hF; exact nomatch (show (none : Option (Int32 × Mm)) = some (rv, hz) from hF)
  | succ f ih =>
    intro x4 x5 x6 x7 h hF
    unfold X12_rests_91 at hF
    refine V.iload 4 dX12_rests_91 rfl ?_
    refine V.iload 2 dX12_rests_93 rfl ?_
    refine V.icmp_ge (tgt := 248) dX12_rests_95 rfl (fun c => ?_) (fun c => ?_)
    · replace hF := ip c hF
      refine V.iload 1 dX12_rests_248 rfl ?_
      refine V.iconst (v := -1) dX12_rests_250 rfl ?_
      refine V.icmp_ne (tgt := 259) dX12_rests_251 rfl (fun c => ?_) (fun c => ?_)
      · replace hF := iq c hF
        refine V.iconst (v := -1) dX12_rests_259 rfl ?_
        cases hF
        exact V.iret dX12_rests_260
      · replace hF := ip c hF
        refine V.iload 3 dX12_rests_254 rfl ?_
        refine V.goto (tgt := 260) dX12_rests_256 rfl ?_
        cases hF
        exact V.iret dX12_rests_260
    · replace hF := iq c hF
      refine V.iconst (v := 0) dX12_rests_98 rfl ?_
      refine V.istore [(8, _), (0, _), (4, _), (5, _), (6, _), (7, _)] dX12_rests_99 (by decide) rfl ?_
      exact V.sub [1, 2, 3, 4, 5, 0] rfl (v_X12_rests_101 ih n _ _ _ _ _ _ hF)
def X12_rests_35 (n : Nat) : Nat → Int32 → Int32 → Int32 → Int32 → Int32 → Int32 → Mm → Option (Int32 × Mm)
  | 0, _, _, _, _, _, _, _ => none
  | f + 1, x1, x2, x3, x4, x5, x6, h => (if (((2 : Int32) * x5) * x5) ≤ x6 then (X12_rests_91 n n x4 x5 (0 : Int32) (0 : Int32) h) else (if ¬ x5 = 0 then (if ¬ x5 = 0 then (bd (X12_gameOf n x1 x2 x3 ((x6 / (2 : Int32)) / x5) ((x6 / (2 : Int32)) - (x6 / (2 : Int32)) / x5 * x5) (x6 - x6 / (2 : Int32) * (2 : Int32)) h) (fun r50 h52 => (if inB x6 (aln 271) then ((X12_rests_35 n f) x1 x2 x3 x4 x5 (x6 + (1)) (wI h52 271 x6.toNatClampNeg r50)) else none))) else none) else none))
set_option maxRecDepth 100000 in
set_option maxHeartbeats 4000000 in
theorem v_X12_rests_35 {X : WX} {G : GX} {o : Mm} {n : Nat} {rv : Int32} {hz : Mm} : ∀ (f : Nat) (x1 : Int32) (x2 : Int32) (x3 : Int32) (x4 : Int32) (x5 : Int32) (x6 : Int32) (h : Mm), X12_rests_35 n f x1 x2 x3 x4 x5 x6 h = some (rv, hz) → V X G RX12 cX12_rests 11 (some .int) 93 0 0 (QR X G false o (some (.int rv)) hz) false o 35 [(0, .ref (xa X 251)), (1, .int x1), (2, .int x2), (3, .int x3), (4, .int x4), (5, .int x5), (6, .int x6)] [] h := by
  intro f
  induction f with
  | zero => intro x1 x2 x3 x4 x5 x6 h hF; exact nomatch (show (none : Option (Int32 × Mm)) = some (rv, hz) from hF)
  | succ f ih =>
    intro x1 x2 x3 x4 x5 x6 h hF
    unfold X12_rests_35 at hF
    refine V.iload 6 dX12_rests_35 rfl ?_
    refine V.iconst (v := 2) dX12_rests_37 rfl ?_
    refine V.iload 5 dX12_rests_38 rfl ?_
    refine V.imul dX12_rests_40 ?_
    refine V.iload 5 dX12_rests_41 rfl ?_
    refine V.imul dX12_rests_43 ?_
    refine V.icmp_ge (tgt := 85) dX12_rests_44 rfl (fun c => ?_) (fun c => ?_)
    · replace hF := ip c hF
      refine V.iconst (v := 0) dX12_rests_85 rfl ?_
      refine V.istore [(6, _), (0, _), (1, _), (2, _), (3, _), (4, _), (5, _)] dX12_rests_86 (by decide) rfl ?_
      refine V.iconst (v := 0) dX12_rests_88 rfl ?_
      refine V.istore [(7, _), (6, _), (0, _), (1, _), (2, _), (3, _), (4, _), (5, _)] dX12_rests_89 (by decide) rfl ?_
      exact V.sub [2, 6, 7, 1, 0] rfl (v_X12_rests_91 n _ _ _ _ _ hF)
    · replace hF := iq c hF
      refine V.aload_n 0 dX12_rests_47 rfl rfl ?_
      refine V.getR (v := 271) fl_X12_87 sh_251 rfl fx_251_48 (by decide) dX12_rests_48 ?_
      refine V.iload 6 dX12_rests_51 rfl ?_
      refine V.aload_n 0 dX12_rests_53 rfl rfl ?_
      refine V.iload_n 1 dX12_rests_54 rfl rfl ?_
      refine V.iload_n 2 dX12_rests_55 rfl rfl ?_
      refine V.iload_n 3 dX12_rests_56 rfl rfl ?_
      refine V.iload 6 dX12_rests_57 rfl ?_
      refine V.iconst (v := 2) dX12_rests_59 rfl ?_
      refine V.idiv dX12_rests_60 (by decide) ?_
      refine V.iload 5 dX12_rests_61 rfl ?_
      obtain ⟨hk, hF⟩ := ck hF
      refine V.idiv dX12_rests_63 hk ?_
      refine V.iload 6 dX12_rests_64 rfl ?_
      refine V.iconst (v := 2) dX12_rests_66 rfl ?_
      refine V.idiv dX12_rests_67 (by decide) ?_
      refine V.iload 5 dX12_rests_68 rfl ?_
      obtain ⟨hk, hF⟩ := ck hF
      refine V.irem dX12_rests_70 hk ?_
      refine V.iload 6 dX12_rests_71 rfl ?_
      refine V.iconst (v := 2) dX12_rests_73 rfl ?_
      refine V.irem dX12_rests_74 (by decide) ?_
      obtain ⟨r50, h52, hc51, hF⟩ := bd_s hF
      refine V.callVi mf_X12_gameOf ml_X12_463 sh_251 (s_X12_gameOf hc51) (by decide) rfl rfl (Nat.le_of_ble_eq_true rfl) dX12_rests_75 ?_
      obtain ⟨hk, hF⟩ := ck hF
      refine V.iast io_271 hk dX12_rests_78 ?_
      refine V.iinc (v := (x6 + (1))) 6 [(6, _), (0, _), (1, _), (2, _), (3, _), (4, _), (5, _)] dX12_rests_79 rfl rfl (by decide) rfl ?_
      refine V.goto (tgt := 35) dX12_rests_82 rfl ?_
      exact V.sub [1, 2, 3, 4, 5, 6, 0] rfl (ih _ _ _ _ _ _ _ hF)
def X12_rests (n : Nat) (x1 : Int32) (x2 : Int32) (x3 : Int32) (x4 : Int32) (h : Mm) : Option (Int32 × Mm) := (bp (X12_isGame x1 x2 x3 (wI h 251 0 (0 : Int32))) (fun r53 => (if r53 = true then (if (-1 : Int32) ≤ x4 then (bp (X12_pagesOf x3 (wI h 251 0 (0 : Int32))) (fun r55 => (X12_rests_35 n n x1 x2 x3 x4 (r55 + (1 : Int32)) (0 : Int32) (wI h 251 0 (0 : Int32))))) else (some ((-1 : Int32), (wI h 251 0 (0 : Int32))))) else (some ((-1 : Int32), (wI h 251 0 (0 : Int32)))))))
set_option maxRecDepth 100000 in
set_option maxHeartbeats 4000000 in
theorem s_X12_rests {X : WX} {o : Mm} {n : Nat} {x1 : Int32} {x2 : Int32} {x3 : Int32} {x4 : Int32} {rv : Int32} {hz : Mm} {h : Mm} (hF : X12_rests n x1 x2 x3 x4 h = some (rv, hz)) : Sat X yX12_rests cX12_rests 11 (some .int) 93 [.ref (xa X 251), .int x1, .int x2, .int x3, .int x4] false o h (some (.int rv)) hz := by
  unfold X12_rests at hF
  refine Sat.mk (own := RX12) rfl (by decide +kernel) (Nat.le_of_ble_eq_true rfl) (fun G => ?_)
  refine V.sub (lv2 := [(0, _), (1, _), (2, _), (3, _), (4, _)]) [0, 1, 2, 3, 4] rfl ?_
  refine V.aload_n 0 dX12_rests_0 rfl rfl ?_
  refine V.iconst (v := 0) dX12_rests_1 rfl ?_
  refine V.putI fl_X12_93 rfl (tyX12_ok 0 (by decide)) rfl rfl sh_251 rfl km_251 dX12_rests_2 ?_
  refine V.aload_n 0 dX12_rests_5 rfl rfl ?_
  refine V.iload_n 1 dX12_rests_6 rfl rfl ?_
  refine V.iload_n 2 dX12_rests_7 rfl rfl ?_
  refine V.iload_n 3 dX12_rests_8 rfl rfl ?_
  obtain ⟨r53, hc54, hF⟩ := bp_s hF
  refine V.callVi mf_X12_isGame ml_X12_459 sh_251 (s_X12_isGame hc54) (by decide) rfl rfl (Nat.le_of_ble_eq_true rfl) dX12_rests_9 ?_
  refine V.ifz_eq (tgt := 21) dX12_rests_12 rfl (fun c => ?_) (fun c => ?_)
  · replace hF := iq c hF
    refine V.iconst (v := -1) dX12_rests_21 rfl ?_
    cases hF
    exact V.iret dX12_rests_22
  · replace hF := ip c hF
    refine V.iload 4 dX12_rests_15 rfl ?_
    refine V.iconst (v := -1) dX12_rests_17 rfl ?_
    refine V.icmp_ge (tgt := 23) dX12_rests_18 rfl (fun c => ?_) (fun c => ?_)
    · replace hF := ip c hF
      refine V.aload_n 0 dX12_rests_23 rfl rfl ?_
      refine V.iload_n 3 dX12_rests_24 rfl rfl ?_
      obtain ⟨r55, hc56, hF⟩ := bp_s hF
      refine V.callVi mf_X12_pagesOf ml_X12_322 sh_251 (s_X12_pagesOf hc56) (by decide) rfl rfl (Nat.le_of_ble_eq_true rfl) dX12_rests_25 ?_
      refine V.iconst (v := 1) dX12_rests_28 rfl ?_
      refine V.iadd dX12_rests_29 ?_
      refine V.istore [(5, _), (0, _), (1, _), (2, _), (3, _), (4, _)] dX12_rests_30 (by decide) rfl ?_
      refine V.iconst (v := 0) dX12_rests_32 rfl ?_
      refine V.istore [(6, _), (5, _), (0, _), (1, _), (2, _), (3, _), (4, _)] dX12_rests_33 (by decide) rfl ?_
      exact V.sub [2, 3, 4, 5, 6, 1, 0] rfl (v_X12_rests_35 n _ _ _ _ _ _ _ hF)
    · replace hF := iq c hF
      refine V.iconst (v := -1) dX12_rests_21 rfl ?_
      cases hF
      exact V.iret dX12_rests_22
/-! MonsterCotModel.odds -/
theorem dX12_odds_0 : decode cX12_odds 0 = .ok (.aload_n 0, 1) := by decide +kernel
theorem dX12_odds_1 : decode cX12_odds 1 = .ok (.iconst 0, 1) := by decide +kernel
theorem dX12_odds_2 : decode cX12_odds 2 = .ok (.putfield 93, 3) := by decide +kernel
theorem dX12_odds_5 : decode cX12_odds 5 = .ok (.aload_n 0, 1) := by decide +kernel
theorem dX12_odds_6 : decode cX12_odds 6 = .ok (.iload_n 1, 1) := by decide +kernel
theorem dX12_odds_7 : decode cX12_odds 7 = .ok (.invokevirtual 337, 3) := by decide +kernel
theorem dX12_odds_10 : decode cX12_odds 10 = .ok (.ifCond .eq 15, 3) := by decide +kernel
theorem dX12_odds_13 : decode cX12_odds 13 = .ok (.iload_n 2, 1) := by decide +kernel
theorem dX12_odds_14 : decode cX12_odds 14 = .ok (.i2l, 1) := by decide +kernel
theorem dX12_odds_15 : decode cX12_odds 15 = .ok (.lconst 0, 1) := by decide +kernel
theorem dX12_odds_16 : decode cX12_odds 16 = .ok (.ldc2_w 305, 3) := by decide +kernel
theorem dX12_odds_19 : decode cX12_odds 19 = .ok (.invokestatic 214, 3) := by decide +kernel
theorem dX12_odds_22 : decode cX12_odds 22 = .ok (.ifCond .ne 5, 3) := by decide +kernel
theorem dX12_odds_25 : decode cX12_odds 25 = .ok (.iconst (-1), 1) := by decide +kernel
theorem dX12_odds_26 : decode cX12_odds 26 = .ok (.ireturn, 1) := by decide +kernel
theorem dX12_odds_27 : decode cX12_odds 27 = .ok (.ldc_w 466, 3) := by decide +kernel
theorem dX12_odds_30 : decode cX12_odds 30 = .ok (.istore_n 3, 1) := by decide +kernel
theorem dX12_odds_31 : decode cX12_odds 31 = .ok (.iconst 0, 1) := by decide +kernel
theorem dX12_odds_32 : decode cX12_odds 32 = .ok (.istore 4, 2) := by decide +kernel
theorem dX12_odds_34 : decode cX12_odds 34 = .ok (.iload 4, 2) := by decide +kernel
theorem dX12_odds_36 : decode cX12_odds 36 = .ok (.aload_n 0, 1) := by decide +kernel
theorem dX12_odds_37 : decode cX12_odds 37 = .ok (.getfield 49, 3) := by decide +kernel
theorem dX12_odds_40 : decode cX12_odds 40 = .ok (.iconst 3, 1) := by decide +kernel
theorem dX12_odds_41 : decode cX12_odds 41 = .ok (.iload_n 1, 1) := by decide +kernel
theorem dX12_odds_42 : decode cX12_odds 42 = .ok (.imul, 1) := by decide +kernel
theorem dX12_odds_43 : decode cX12_odds 43 = .ok (.iaload, 1) := by decide +kernel
theorem dX12_odds_44 : decode cX12_odds 44 = .ok (.if_icmp .ge 18, 3) := by decide +kernel
theorem dX12_odds_47 : decode cX12_odds 47 = .ok (.iload_n 3, 1) := by decide +kernel
theorem dX12_odds_48 : decode cX12_odds 48 = .ok (.iload_n 3, 1) := by decide +kernel
theorem dX12_odds_49 : decode cX12_odds 49 = .ok (.iload_n 2, 1) := by decide +kernel
theorem dX12_odds_50 : decode cX12_odds 50 = .ok (.imul, 1) := by decide +kernel
theorem dX12_odds_51 : decode cX12_odds 51 = .ok (.bipush 100, 2) := by decide +kernel
theorem dX12_odds_53 : decode cX12_odds 53 = .ok (.idiv, 1) := by decide +kernel
theorem dX12_odds_54 : decode cX12_odds 54 = .ok (.isub, 1) := by decide +kernel
theorem dX12_odds_55 : decode cX12_odds 55 = .ok (.istore_n 3, 1) := by decide +kernel
theorem dX12_odds_56 : decode cX12_odds 56 = .ok (.iinc 4 1, 3) := by decide +kernel
theorem dX12_odds_59 : decode cX12_odds 59 = .ok (.goto (-25), 3) := by decide +kernel
theorem dX12_odds_62 : decode cX12_odds 62 = .ok (.iload_n 3, 1) := by decide +kernel
theorem dX12_odds_63 : decode cX12_odds 63 = .ok (.ireturn, 1) := by decide +kernel
def X12_odds_34 (n : Nat) : Nat → Int32 → Int32 → Int32 → Int32 → Mm → Option (Int32 × Mm)
  | 0, _, _, _, _, _ => none
  | f + 1, x1, x2, x3, x4, h => (if inB ((3 : Int32) * x1) (aln 260) then (if (h.1 260 ((3 : Int32) * x1).toNatClampNeg) ≤ x4 then (some (x3, h)) else ((X12_odds_34 n f) x1 x2 (x3 - ((x3 * x2) / (100 : Int32))) (x4 + (1)) h)) else none)
set_option maxRecDepth 100000 in
set_option maxHeartbeats 4000000 in
theorem v_X12_odds_34 {X : WX} {G : GX} {o : Mm} {n : Nat} {rv : Int32} {hz : Mm} : ∀ (f : Nat) (x1 : Int32) (x2 : Int32) (x3 : Int32) (x4 : Int32) (h : Mm), X12_odds_34 n f x1 x2 x3 x4 h = some (rv, hz) → V X G RX12 cX12_odds 5 (some .int) 2 0 0 (QR X G false o (some (.int rv)) hz) false o 34 [(0, .ref (xa X 251)), (1, .int x1), (2, .int x2), (3, .int x3), (4, .int x4)] [] h := by
  intro f
  induction f with
  | zero => intro x1 x2 x3 x4 h hF; exact nomatch (show (none : Option (Int32 × Mm)) = some (rv, hz) from hF)
  | succ f ih =>
    intro x1 x2 x3 x4 h hF
    unfold X12_odds_34 at hF
    refine V.iload 4 dX12_odds_34 rfl ?_
    refine V.aload_n 0 dX12_odds_36 rfl rfl ?_
    refine V.getR (v := 260) fl_X12_49 sh_251 rfl fx_251_22 (by decide) dX12_odds_37 ?_
    refine V.iconst (v := 3) dX12_odds_40 rfl ?_
    refine V.iload_n 1 dX12_odds_41 rfl rfl ?_
    refine V.imul dX12_odds_42 ?_
    obtain ⟨hk, hF⟩ := ck hF
    refine V.iald io_260 hk dX12_odds_43 ?_
    refine V.icmp_ge (tgt := 62) dX12_odds_44 rfl (fun c => ?_) (fun c => ?_)
    · replace hF := ip c hF
      refine V.iload_n 3 dX12_odds_62 rfl rfl ?_
      cases hF
      exact V.iret dX12_odds_63
    · replace hF := iq c hF
      refine V.iload_n 3 dX12_odds_47 rfl rfl ?_
      refine V.iload_n 3 dX12_odds_48 rfl rfl ?_
      refine V.iload_n 2 dX12_odds_49 rfl rfl ?_
      refine V.imul dX12_odds_50 ?_
      refine V.bipush (v := 100) dX12_odds_51 (by decide) ?_
      refine V.idiv dX12_odds_53 (by decide) ?_
      refine V.isub dX12_odds_54 ?_
      refine V.istore_n [(3, _), (0, _), (1, _), (2, _), (4, _)] dX12_odds_55 rfl (by decide) rfl ?_
      refine V.iinc (v := (x4 + (1))) 4 [(4, _), (3, _), (0, _), (1, _), (2, _)] dX12_odds_56 rfl rfl (by decide) rfl ?_
      refine V.goto (tgt := 34) dX12_odds_59 rfl ?_
      exact V.sub [2, 3, 4, 1, 0] rfl (ih _ _ _ _ _ hF)
def X12_odds (n : Nat) (x1 : Int32) (x2 : Int32) (h : Mm) : Option (Int32 × Mm) := (bp (X12_isHouse x1 (wI h 251 0 (0 : Int32))) (fun r9 => (if r9 = true then (bp (X12_isIn x2.toInt64 (0 : Int64) (100 : Int64) (wI h 251 0 (0 : Int32))) (fun r11 => (if r11 = true then (X12_odds_34 n n x1 x2 (1000000 : Int32) (0 : Int32) (wI h 251 0 (0 : Int32))) else (some ((-1 : Int32), (wI h 251 0 (0 : Int32))))))) else (some ((-1 : Int32), (wI h 251 0 (0 : Int32)))))))
set_option maxRecDepth 100000 in
set_option maxHeartbeats 4000000 in
theorem s_X12_odds {X : WX} {o : Mm} {n : Nat} {x1 : Int32} {x2 : Int32} {rv : Int32} {hz : Mm} {h : Mm} (hF : X12_odds n x1 x2 h = some (rv, hz)) : Sat X yX12_odds cX12_odds 5 (some .int) 2 [.ref (xa X 251), .int x1, .int x2] false o h (some (.int rv)) hz := by
  unfold X12_odds at hF
  refine Sat.mk (own := RX12) rfl (by decide +kernel) (Nat.le_of_ble_eq_true rfl) (fun G => ?_)
  refine V.sub (lv2 := [(0, _), (1, _), (2, _)]) [0, 1, 2] rfl ?_
  refine V.aload_n 0 dX12_odds_0 rfl rfl ?_
  refine V.iconst (v := 0) dX12_odds_1 rfl ?_
  refine V.putI fl_X12_93 rfl (tyX12_ok 0 (by decide)) rfl rfl sh_251 rfl km_251 dX12_odds_2 ?_
  refine V.aload_n 0 dX12_odds_5 rfl rfl ?_
  refine V.iload_n 1 dX12_odds_6 rfl rfl ?_
  obtain ⟨r9, hc10, hF⟩ := bp_s hF
  refine V.callVi mf_X12_isHouse ml_X12_337 sh_251 (s_X12_isHouse hc10) (by decide) rfl rfl (Nat.le_of_ble_eq_true rfl) dX12_odds_7 ?_
  refine V.ifz_eq (tgt := 25) dX12_odds_10 rfl (fun c => ?_) (fun c => ?_)
  · replace hF := iq c hF
    refine V.iconst (v := -1) dX12_odds_25 rfl ?_
    cases hF
    exact V.iret dX12_odds_26
  · replace hF := ip c hF
    refine V.iload_n 2 dX12_odds_13 rfl rfl ?_
    refine V.i2l dX12_odds_14 ?_
    refine V.lconst (v := 0) dX12_odds_15 rfl ?_
    refine V.ldc2 (v := 100) dX12_odds_16 kc_X12_305 ?_
    obtain ⟨r11, hc12, hF⟩ := bp_s hF
    refine V.callSi mf_X12_isIn ml_X12_214 (s_X12_isIn hc12) (by decide) rfl rfl (Nat.le_of_ble_eq_true rfl) dX12_odds_19 ?_
    refine V.ifz_ne (tgt := 27) dX12_odds_22 rfl (fun c => ?_) (fun c => ?_)
    · replace hF := ip c hF
      refine V.ldcw (v := 1000000) dX12_odds_27 kc_X12_466 ?_
      refine V.istore_n [(3, _), (0, _), (1, _), (2, _)] dX12_odds_30 rfl (by decide) rfl ?_
      refine V.iconst (v := 0) dX12_odds_31 rfl ?_
      refine V.istore [(4, _), (3, _), (0, _), (1, _), (2, _)] dX12_odds_32 (by decide) rfl ?_
      exact V.sub [2, 3, 4, 1, 0] rfl (v_X12_odds_34 n _ _ _ _ _ hF)
    · replace hF := iq c hF
      refine V.iconst (v := -1) dX12_odds_25 rfl ?_
      cases hF
      exact V.iret dX12_odds_26
/-! MonsterCotModel.lasts -/
theorem dX12_lasts_0 : decode cX12_lasts 0 = .ok (.aload_n 0, 1) := by decide +kernel
theorem dX12_lasts_1 : decode cX12_lasts 1 = .ok (.iconst 0, 1) := by decide +kernel
theorem dX12_lasts_2 : decode cX12_lasts 2 = .ok (.putfield 93, 3) := by decide +kernel
theorem dX12_lasts_5 : decode cX12_lasts 5 = .ok (.aload_n 0, 1) := by decide +kernel
theorem dX12_lasts_6 : decode cX12_lasts 6 = .ok (.iload_n 1, 1) := by decide +kernel
theorem dX12_lasts_7 : decode cX12_lasts 7 = .ok (.invokevirtual 319, 3) := by decide +kernel
theorem dX12_lasts_10 : decode cX12_lasts 10 = .ok (.ifCond .ne 5, 3) := by decide +kernel
theorem dX12_lasts_13 : decode cX12_lasts 13 = .ok (.iconst (-1), 1) := by decide +kernel
theorem dX12_lasts_14 : decode cX12_lasts 14 = .ok (.ireturn, 1) := by decide +kernel
theorem dX12_lasts_15 : decode cX12_lasts 15 = .ok (.aload_n 0, 1) := by decide +kernel
theorem dX12_lasts_16 : decode cX12_lasts 16 = .ok (.getfield 61, 3) := by decide +kernel
theorem dX12_lasts_19 : decode cX12_lasts 19 = .ok (.aload_n 0, 1) := by decide +kernel
theorem dX12_lasts_20 : decode cX12_lasts 20 = .ok (.getfield 64, 3) := by decide +kernel
theorem dX12_lasts_23 : decode cX12_lasts 23 = .ok (.invokestatic 401, 3) := by decide +kernel
theorem dX12_lasts_26 : decode cX12_lasts 26 = .ok (.aload_n 0, 1) := by decide +kernel
theorem dX12_lasts_27 : decode cX12_lasts 27 = .ok (.getfield 64, 3) := by decide +kernel
theorem dX12_lasts_30 : decode cX12_lasts 30 = .ok (.iconst 3, 1) := by decide +kernel
theorem dX12_lasts_31 : decode cX12_lasts 31 = .ok (.aload_n 0, 1) := by decide +kernel
theorem dX12_lasts_32 : decode cX12_lasts 32 = .ok (.getfield 64, 3) := by decide +kernel
theorem dX12_lasts_35 : decode cX12_lasts 35 = .ok (.bipush 23, 2) := by decide +kernel
theorem dX12_lasts_37 : decode cX12_lasts 37 = .ok (.iaload, 1) := by decide +kernel
theorem dX12_lasts_38 : decode cX12_lasts 38 = .ok (.imul, 1) := by decide +kernel
theorem dX12_lasts_39 : decode cX12_lasts 39 = .ok (.iconst 1, 1) := by decide +kernel
theorem dX12_lasts_40 : decode cX12_lasts 40 = .ok (.iadd, 1) := by decide +kernel
theorem dX12_lasts_41 : decode cX12_lasts 41 = .ok (.iaload, 1) := by decide +kernel
theorem dX12_lasts_42 : decode cX12_lasts 42 = .ok (.istore_n 2, 1) := by decide +kernel
theorem dX12_lasts_43 : decode cX12_lasts 43 = .ok (.bipush 18, 2) := by decide +kernel
theorem dX12_lasts_45 : decode cX12_lasts 45 = .ok (.aload_n 0, 1) := by decide +kernel
theorem dX12_lasts_46 : decode cX12_lasts 46 = .ok (.iload_n 1, 1) := by decide +kernel
theorem dX12_lasts_47 : decode cX12_lasts 47 = .ok (.invokevirtual 328, 3) := by decide +kernel
theorem dX12_lasts_50 : decode cX12_lasts 50 = .ok (.iadd, 1) := by decide +kernel
theorem dX12_lasts_51 : decode cX12_lasts 51 = .ok (.istore_n 3, 1) := by decide +kernel
theorem dX12_lasts_52 : decode cX12_lasts 52 = .ok (.iconst 0, 1) := by decide +kernel
theorem dX12_lasts_53 : decode cX12_lasts 53 = .ok (.istore 4, 2) := by decide +kernel
theorem dX12_lasts_55 : decode cX12_lasts 55 = .ok (.iload 4, 2) := by decide +kernel
theorem dX12_lasts_57 : decode cX12_lasts 57 = .ok (.bipush 20, 2) := by decide +kernel
theorem dX12_lasts_59 : decode cX12_lasts 59 = .ok (.if_icmp .ge 151, 3) := by decide +kernel
theorem dX12_lasts_62 : decode cX12_lasts 62 = .ok (.iconst 0, 1) := by decide +kernel
theorem dX12_lasts_63 : decode cX12_lasts 63 = .ok (.istore 5, 2) := by decide +kernel
theorem dX12_lasts_65 : decode cX12_lasts 65 = .ok (.iload 5, 2) := by decide +kernel
theorem dX12_lasts_67 : decode cX12_lasts 67 = .ok (.aload_n 0, 1) := by decide +kernel
theorem dX12_lasts_68 : decode cX12_lasts 68 = .ok (.iload_n 1, 1) := by decide +kernel
theorem dX12_lasts_69 : decode cX12_lasts 69 = .ok (.invokevirtual 322, 3) := by decide +kernel
theorem dX12_lasts_72 : decode cX12_lasts 72 = .ok (.if_icmp .ge 49, 3) := by decide +kernel
theorem dX12_lasts_75 : decode cX12_lasts 75 = .ok (.aload_n 0, 1) := by decide +kernel
theorem dX12_lasts_76 : decode cX12_lasts 76 = .ok (.getfield 64, 3) := by decide +kernel
theorem dX12_lasts_79 : decode cX12_lasts 79 = .ok (.bipush 22, 2) := by decide +kernel
theorem dX12_lasts_81 : decode cX12_lasts 81 = .ok (.aload_n 0, 1) := by decide +kernel
theorem dX12_lasts_82 : decode cX12_lasts 82 = .ok (.getfield 64, 3) := by decide +kernel
theorem dX12_lasts_85 : decode cX12_lasts 85 = .ok (.bipush 22, 2) := by decide +kernel
theorem dX12_lasts_87 : decode cX12_lasts 87 = .ok (.iaload, 1) := by decide +kernel
theorem dX12_lasts_88 : decode cX12_lasts 88 = .ok (.aload_n 0, 1) := by decide +kernel
theorem dX12_lasts_89 : decode cX12_lasts 89 = .ok (.iload_n 1, 1) := by decide +kernel
theorem dX12_lasts_90 : decode cX12_lasts 90 = .ok (.iload_n 2, 1) := by decide +kernel
theorem dX12_lasts_91 : decode cX12_lasts 91 = .ok (.aload_n 0, 1) := by decide +kernel
theorem dX12_lasts_92 : decode cX12_lasts 92 = .ok (.getfield 64, 3) := by decide +kernel
theorem dX12_lasts_95 : decode cX12_lasts 95 = .ok (.iload_n 3, 1) := by decide +kernel
theorem dX12_lasts_96 : decode cX12_lasts 96 = .ok (.iaload, 1) := by decide +kernel
theorem dX12_lasts_97 : decode cX12_lasts 97 = .ok (.iload 5, 2) := by decide +kernel
theorem dX12_lasts_99 : decode cX12_lasts 99 = .ok (.aload_n 0, 1) := by decide +kernel
theorem dX12_lasts_100 : decode cX12_lasts 100 = .ok (.getfield 64, 3) := by decide +kernel
theorem dX12_lasts_103 : decode cX12_lasts 103 = .ok (.bipush 29, 2) := by decide +kernel
theorem dX12_lasts_105 : decode cX12_lasts 105 = .ok (.iaload, 1) := by decide +kernel
theorem dX12_lasts_106 : decode cX12_lasts 106 = .ok (.iconst 0, 1) := by decide +kernel
theorem dX12_lasts_107 : decode cX12_lasts 107 = .ok (.invokevirtual 331, 3) := by decide +kernel
theorem dX12_lasts_110 : decode cX12_lasts 110 = .ok (.iadd, 1) := by decide +kernel
theorem dX12_lasts_111 : decode cX12_lasts 111 = .ok (.invokestatic 334, 3) := by decide +kernel
theorem dX12_lasts_114 : decode cX12_lasts 114 = .ok (.iastore, 1) := by decide +kernel
theorem dX12_lasts_115 : decode cX12_lasts 115 = .ok (.iinc 5 1, 3) := by decide +kernel
theorem dX12_lasts_118 : decode cX12_lasts 118 = .ok (.goto (-53), 3) := by decide +kernel
theorem dX12_lasts_121 : decode cX12_lasts 121 = .ok (.aload_n 0, 1) := by decide +kernel
theorem dX12_lasts_122 : decode cX12_lasts 122 = .ok (.aload_n 0, 1) := by decide +kernel
theorem dX12_lasts_123 : decode cX12_lasts 123 = .ok (.getfield 64, 3) := by decide +kernel
theorem dX12_lasts_126 : decode cX12_lasts 126 = .ok (.bipush 22, 2) := by decide +kernel
theorem dX12_lasts_128 : decode cX12_lasts 128 = .ok (.iaload, 1) := by decide +kernel
theorem dX12_lasts_129 : decode cX12_lasts 129 = .ok (.invokevirtual 340, 3) := by decide +kernel
theorem dX12_lasts_132 : decode cX12_lasts 132 = .ok (.ifCond .ne 6, 3) := by decide +kernel
theorem dX12_lasts_135 : decode cX12_lasts 135 = .ok (.iload 4, 2) := by decide +kernel
theorem dX12_lasts_137 : decode cX12_lasts 137 = .ok (.ireturn, 1) := by decide +kernel
theorem dX12_lasts_138 : decode cX12_lasts 138 = .ok (.aload_n 0, 1) := by decide +kernel
theorem dX12_lasts_139 : decode cX12_lasts 139 = .ok (.getfield 64, 3) := by decide +kernel
theorem dX12_lasts_142 : decode cX12_lasts 142 = .ok (.iload_n 3, 1) := by decide +kernel
theorem dX12_lasts_143 : decode cX12_lasts 143 = .ok (.bipush 9, 2) := by decide +kernel
theorem dX12_lasts_145 : decode cX12_lasts 145 = .ok (.aload_n 0, 1) := by decide +kernel
theorem dX12_lasts_146 : decode cX12_lasts 146 = .ok (.getfield 64, 3) := by decide +kernel
theorem dX12_lasts_149 : decode cX12_lasts 149 = .ok (.iload_n 3, 1) := by decide +kernel
theorem dX12_lasts_150 : decode cX12_lasts 150 = .ok (.iaload, 1) := by decide +kernel
theorem dX12_lasts_151 : decode cX12_lasts 151 = .ok (.iconst 1, 1) := by decide +kernel
theorem dX12_lasts_152 : decode cX12_lasts 152 = .ok (.iadd, 1) := by decide +kernel
theorem dX12_lasts_153 : decode cX12_lasts 153 = .ok (.invokestatic 315, 3) := by decide +kernel
theorem dX12_lasts_156 : decode cX12_lasts 156 = .ok (.iastore, 1) := by decide +kernel
theorem dX12_lasts_157 : decode cX12_lasts 157 = .ok (.aload_n 0, 1) := by decide +kernel
theorem dX12_lasts_158 : decode cX12_lasts 158 = .ok (.getfield 64, 3) := by decide +kernel
theorem dX12_lasts_161 : decode cX12_lasts 161 = .ok (.bipush 22, 2) := by decide +kernel
theorem dX12_lasts_163 : decode cX12_lasts 163 = .ok (.aload_n 0, 1) := by decide +kernel
theorem dX12_lasts_164 : decode cX12_lasts 164 = .ok (.aload_n 0, 1) := by decide +kernel
theorem dX12_lasts_165 : decode cX12_lasts 165 = .ok (.getfield 64, 3) := by decide +kernel
theorem dX12_lasts_168 : decode cX12_lasts 168 = .ok (.bipush 22, 2) := by decide +kernel
theorem dX12_lasts_170 : decode cX12_lasts 170 = .ok (.iaload, 1) := by decide +kernel
theorem dX12_lasts_171 : decode cX12_lasts 171 = .ok (.invokevirtual 343, 3) := by decide +kernel
theorem dX12_lasts_174 : decode cX12_lasts 174 = .ok (.iastore, 1) := by decide +kernel
theorem dX12_lasts_175 : decode cX12_lasts 175 = .ok (.aload_n 0, 1) := by decide +kernel
theorem dX12_lasts_176 : decode cX12_lasts 176 = .ok (.getfield 64, 3) := by decide +kernel
theorem dX12_lasts_179 : decode cX12_lasts 179 = .ok (.iload_n 3, 1) := by decide +kernel
theorem dX12_lasts_180 : decode cX12_lasts 180 = .ok (.iconst 0, 1) := by decide +kernel
theorem dX12_lasts_181 : decode cX12_lasts 181 = .ok (.aload_n 0, 1) := by decide +kernel
theorem dX12_lasts_182 : decode cX12_lasts 182 = .ok (.getfield 64, 3) := by decide +kernel
theorem dX12_lasts_185 : decode cX12_lasts 185 = .ok (.iload_n 3, 1) := by decide +kernel
theorem dX12_lasts_186 : decode cX12_lasts 186 = .ok (.iaload, 1) := by decide +kernel
theorem dX12_lasts_187 : decode cX12_lasts 187 = .ok (.iconst 1, 1) := by decide +kernel
theorem dX12_lasts_188 : decode cX12_lasts 188 = .ok (.isub, 1) := by decide +kernel
theorem dX12_lasts_189 : decode cX12_lasts 189 = .ok (.invokestatic 317, 3) := by decide +kernel
theorem dX12_lasts_192 : decode cX12_lasts 192 = .ok (.iastore, 1) := by decide +kernel
theorem dX12_lasts_193 : decode cX12_lasts 193 = .ok (.aload_n 0, 1) := by decide +kernel
theorem dX12_lasts_194 : decode cX12_lasts 194 = .ok (.getfield 64, 3) := by decide +kernel
theorem dX12_lasts_197 : decode cX12_lasts 197 = .ok (.bipush 29, 2) := by decide +kernel
theorem dX12_lasts_199 : decode cX12_lasts 199 = .ok (.dup2, 1) := by decide +kernel
theorem dX12_lasts_200 : decode cX12_lasts 200 = .ok (.iaload, 1) := by decide +kernel
theorem dX12_lasts_201 : decode cX12_lasts 201 = .ok (.iconst 1, 1) := by decide +kernel
theorem dX12_lasts_202 : decode cX12_lasts 202 = .ok (.iadd, 1) := by decide +kernel
theorem dX12_lasts_203 : decode cX12_lasts 203 = .ok (.iastore, 1) := by decide +kernel
theorem dX12_lasts_204 : decode cX12_lasts 204 = .ok (.iinc 4 1, 3) := by decide +kernel
theorem dX12_lasts_207 : decode cX12_lasts 207 = .ok (.goto (-152), 3) := by decide +kernel
theorem dX12_lasts_210 : decode cX12_lasts 210 = .ok (.bipush 20, 2) := by decide +kernel
theorem dX12_lasts_212 : decode cX12_lasts 212 = .ok (.ireturn, 1) := by decide +kernel
def X12_lasts_65 (n : Nat) (K55 : Int32 → Int32 → Int32 → Int32 → Mm → Option (Int32 × Mm)) : Nat → Int32 → Int32 → Int32 → Int32 → Int32 → Mm → Option (Int32 × Mm)
  | 0, _, _, _, _, _, _ => none
  | f + 1, x1, x2, x3, x4, x5, h => (bp (X12_pagesOf x1 h) (fun r74 => (if r74 ≤ x5 then (if inB (22 : Int32) (aln 265) then (bp (X12_isEnough (h.1 265 (22 : Int32).toNatClampNeg) h) (fun r76 => (if r76 = true then (if inB x3 (aln 265) then (bp (J9_min_7cf53 (9 : Int32) ((h.1 265 x3.toNatClampNeg) + (1 : Int32)) h) (fun r78 => (if inB x3 (aln 265) then (if inB (22 : Int32) (aln 265) then (bp (X12_behind ((wI h 265 x3.toNatClampNeg r78).1 265 (22 : Int32).toNatClampNeg) (wI h 265 x3.toNatClampNeg r78)) (fun r80 => (if inB (22 : Int32) (aln 265) then (if inB x3 (aln 265) then (bp (J9_max_7cf53 (0 : Int32) (((wI (wI h 265 x3.toNatClampNeg r78) 265 (22 : Int32).toNatClampNeg r80).1 265 x3.toNatClampNeg) - (1 : Int32)) (wI (wI h 265 x3.toNatClampNeg r78) 265 (22 : Int32).toNatClampNeg r80)) (fun r82 => (if inB x3 (aln 265) then (if inB (29 : Int32) (aln 265) then (if inB (29 : Int32) (aln 265) then (K55 x1 x2 x3 (x4 + (1)) (wI (wI (wI (wI h 265 x3.toNatClampNeg r78) 265 (22 : Int32).toNatClampNeg r80) 265 x3.toNatClampNeg r82) 265 (29 : Int32).toNatClampNeg (((wI (wI (wI h 265 x3.toNatClampNeg r78) 265 (22 : Int32).toNatClampNeg r80) 265 x3.toNatClampNeg r82).1 265 (29 : Int32).toNatClampNeg) + (1 : Int32)))) else none) else none) else none))) else none) else none))) else none) else none))) else none) else (some (x4, h))))) else none) else (if inB (22 : Int32) (aln 265) then (if inB x3 (aln 265) then (if inB (29 : Int32) (aln 265) then (bd (X12_page n x1 x2 (h.1 265 x3.toNatClampNeg) x5 (h.1 265 (29 : Int32).toNatClampNeg) (0 : Int32) h) (fun r84 h86 => (bp (X12_held ((h.1 265 (22 : Int32).toNatClampNeg) + r84) h86) (fun r87 => (if inB (22 : Int32) (aln 265) then ((X12_lasts_65 n K55 f) x1 x2 x3 x4 (x5 + (1)) (wI h86 265 (22 : Int32).toNatClampNeg r87)) else none))))) else none) else none) else none))))
set_option maxRecDepth 100000 in
set_option maxHeartbeats 4000000 in
theorem v_X12_lasts_65 {X : WX} {G : GX} {o : Mm} {n : Nat} {K55 : Int32 → Int32 → Int32 → Int32 → Mm → Option (Int32 × Mm)} {rv : Int32} {hz : Mm} (hK55 : ∀ (x1 : Int32) (x2 : Int32) (x3 : Int32) (x4 : Int32) (h : Mm), K55 x1 x2 x3 x4 h = some (rv, hz) → V X G RX12 cX12_lasts 6 (some .int) 91 0 0 (QR X G false o (some (.int rv)) hz) false o 55 [(0, .ref (xa X 251)), (1, .int x1), (2, .int x2), (3, .int x3), (4, .int x4)] [] h) : ∀ (f : Nat) (x1 : Int32) (x2 : Int32) (x3 : Int32) (x4 : Int32) (x5 : Int32) (h : Mm), X12_lasts_65 n K55 f x1 x2 x3 x4 x5 h = some (rv, hz) → V X G RX12 cX12_lasts 6 (some .int) 91 0 0 (QR X G false o (some (.int rv)) hz) false o 65 [(0, .ref (xa X 251)), (1, .int x1), (2, .int x2), (3, .int x3), (4, .int x4), (5, .int x5)] [] h := by
  intro f
  induction f with
  | zero => intro x1 x2 x3 x4 x5 h hF; exact nomatch (show (none : Option (Int32 × Mm)) = some (rv, hz) from hF)
  | succ f ih =>
    intro x1 x2 x3 x4 x5 h hF
    unfold X12_lasts_65 at hF
    refine V.iload 5 dX12_lasts_65 rfl ?_
    refine V.aload_n 0 dX12_lasts_67 rfl rfl ?_
    refine V.iload_n 1 dX12_lasts_68 rfl rfl ?_
    obtain ⟨r74, hc75, hF⟩ := bp_s hF
    refine V.callVi mf_X12_pagesOf ml_X12_322 sh_251 (s_X12_pagesOf hc75) (by decide) rfl rfl (Nat.le_of_ble_eq_true rfl) dX12_lasts_69 ?_
    refine V.icmp_ge (tgt := 121) dX12_lasts_72 rfl (fun c => ?_) (fun c => ?_)
    · replace hF := ip c hF
      refine V.aload_n 0 dX12_lasts_121 rfl rfl ?_
      refine V.aload_n 0 dX12_lasts_122 rfl rfl ?_
      refine V.getR (v := 265) fl_X12_64 sh_251 rfl fx_251_33 (by decide) dX12_lasts_123 ?_
      refine V.bipush (v := 22) dX12_lasts_126 (by decide) ?_
      obtain ⟨hk, hF⟩ := ck hF
      refine V.iald io_265 hk dX12_lasts_128 ?_
      obtain ⟨r76, hc77, hF⟩ := bp_s hF
      refine V.callVi mf_X12_isEnough ml_X12_340 sh_251 (s_X12_isEnough hc77) (by decide) rfl rfl (Nat.le_of_ble_eq_true rfl) dX12_lasts_129 ?_
      refine V.ifz_ne (tgt := 138) dX12_lasts_132 rfl (fun c => ?_) (fun c => ?_)
      · replace hF := ip c hF
        refine V.aload_n 0 dX12_lasts_138 rfl rfl ?_
        refine V.getR (v := 265) fl_X12_64 sh_251 rfl fx_251_33 (by decide) dX12_lasts_139 ?_
        refine V.iload_n 3 dX12_lasts_142 rfl rfl ?_
        refine V.bipush (v := 9) dX12_lasts_143 (by decide) ?_
        refine V.aload_n 0 dX12_lasts_145 rfl rfl ?_
        refine V.getR (v := 265) fl_X12_64 sh_251 rfl fx_251_33 (by decide) dX12_lasts_146 ?_
        refine V.iload_n 3 dX12_lasts_149 rfl rfl ?_
        obtain ⟨hk, hF⟩ := ck hF
        refine V.iald io_265 hk dX12_lasts_150 ?_
        refine V.iconst (v := 1) dX12_lasts_151 rfl ?_
        refine V.iadd dX12_lasts_152 ?_
        obtain ⟨r78, hc79, hF⟩ := bp_s hF
        refine V.callSi mf_J9_min_7cf53 ml_X12_315 (s_J9_min_7cf53 hc79) (by decide) rfl rfl (Nat.le_of_ble_eq_true rfl) dX12_lasts_153 ?_
        obtain ⟨hk, hF⟩ := ck hF
        refine V.iast io_265 hk dX12_lasts_156 ?_
        refine V.aload_n 0 dX12_lasts_157 rfl rfl ?_
        refine V.getR (v := 265) fl_X12_64 sh_251 rfl fx_251_33 (by decide) dX12_lasts_158 ?_
        refine V.bipush (v := 22) dX12_lasts_161 (by decide) ?_
        refine V.aload_n 0 dX12_lasts_163 rfl rfl ?_
        refine V.aload_n 0 dX12_lasts_164 rfl rfl ?_
        refine V.getR (v := 265) fl_X12_64 sh_251 rfl fx_251_33 (by decide) dX12_lasts_165 ?_
        refine V.bipush (v := 22) dX12_lasts_168 (by decide) ?_
        obtain ⟨hk, hF⟩ := ck hF
        refine V.iald io_265 hk dX12_lasts_170 ?_
        obtain ⟨r80, hc81, hF⟩ := bp_s hF
        refine V.callVi mf_X12_behind ml_X12_343 sh_251 (s_X12_behind hc81) (by decide) rfl rfl (Nat.le_of_ble_eq_true rfl) dX12_lasts_171 ?_
        obtain ⟨hk, hF⟩ := ck hF
        refine V.iast io_265 hk dX12_lasts_174 ?_
        refine V.aload_n 0 dX12_lasts_175 rfl rfl ?_
        refine V.getR (v := 265) fl_X12_64 sh_251 rfl fx_251_33 (by decide) dX12_lasts_176 ?_
        refine V.iload_n 3 dX12_lasts_179 rfl rfl ?_
        refine V.iconst (v := 0) dX12_lasts_180 rfl ?_
        refine V.aload_n 0 dX12_lasts_181 rfl rfl ?_
        refine V.getR (v := 265) fl_X12_64 sh_251 rfl fx_251_33 (by decide) dX12_lasts_182 ?_
        refine V.iload_n 3 dX12_lasts_185 rfl rfl ?_
        obtain ⟨hk, hF⟩ := ck hF
        refine V.iald io_265 hk dX12_lasts_186 ?_
        refine V.iconst (v := 1) dX12_lasts_187 rfl ?_
        refine V.isub dX12_lasts_188 ?_
        obtain ⟨r82, hc83, hF⟩ := bp_s hF
        refine V.callSi mf_J9_max_7cf53 ml_X12_317 (s_J9_max_7cf53 hc83) (by decide) rfl rfl (Nat.le_of_ble_eq_true rfl) dX12_lasts_189 ?_
        obtain ⟨hk, hF⟩ := ck hF
        refine V.iast io_265 hk dX12_lasts_192 ?_
        refine V.aload_n 0 dX12_lasts_193 rfl rfl ?_
        refine V.getR (v := 265) fl_X12_64 sh_251 rfl fx_251_33 (by decide) dX12_lasts_194 ?_
        refine V.bipush (v := 29) dX12_lasts_197 (by decide) ?_
        refine V.dup2 dX12_lasts_199 rfl rfl ?_
        obtain ⟨hk, hF⟩ := ck hF
        refine V.iald io_265 hk dX12_lasts_200 ?_
        refine V.iconst (v := 1) dX12_lasts_201 rfl ?_
        refine V.iadd dX12_lasts_202 ?_
        obtain ⟨hk, hF⟩ := ck hF
        refine V.iast io_265 hk dX12_lasts_203 ?_
        refine V.iinc (v := (x4 + (1))) 4 [(4, _), (0, _), (1, _), (2, _), (3, _), (5, _)] dX12_lasts_204 rfl rfl (by decide) rfl ?_
        refine V.goto (tgt := 55) dX12_lasts_207 rfl ?_
        exact V.sub [1, 2, 3, 4, 0] rfl (hK55 _ _ _ _ _ hF)
      · replace hF := iq c hF
        refine V.iload 4 dX12_lasts_135 rfl ?_
        cases hF
        exact V.iret dX12_lasts_137
    · replace hF := iq c hF
      refine V.aload_n 0 dX12_lasts_75 rfl rfl ?_
      refine V.getR (v := 265) fl_X12_64 sh_251 rfl fx_251_33 (by decide) dX12_lasts_76 ?_
      refine V.bipush (v := 22) dX12_lasts_79 (by decide) ?_
      refine V.aload_n 0 dX12_lasts_81 rfl rfl ?_
      refine V.getR (v := 265) fl_X12_64 sh_251 rfl fx_251_33 (by decide) dX12_lasts_82 ?_
      refine V.bipush (v := 22) dX12_lasts_85 (by decide) ?_
      obtain ⟨hk, hF⟩ := ck hF
      refine V.iald io_265 hk dX12_lasts_87 ?_
      refine V.aload_n 0 dX12_lasts_88 rfl rfl ?_
      refine V.iload_n 1 dX12_lasts_89 rfl rfl ?_
      refine V.iload_n 2 dX12_lasts_90 rfl rfl ?_
      refine V.aload_n 0 dX12_lasts_91 rfl rfl ?_
      refine V.getR (v := 265) fl_X12_64 sh_251 rfl fx_251_33 (by decide) dX12_lasts_92 ?_
      refine V.iload_n 3 dX12_lasts_95 rfl rfl ?_
      obtain ⟨hk, hF⟩ := ck hF
      refine V.iald io_265 hk dX12_lasts_96 ?_
      refine V.iload 5 dX12_lasts_97 rfl ?_
      refine V.aload_n 0 dX12_lasts_99 rfl rfl ?_
      refine V.getR (v := 265) fl_X12_64 sh_251 rfl fx_251_33 (by decide) dX12_lasts_100 ?_
      refine V.bipush (v := 29) dX12_lasts_103 (by decide) ?_
      obtain ⟨hk, hF⟩ := ck hF
      refine V.iald io_265 hk dX12_lasts_105 ?_
      refine V.iconst (v := 0) dX12_lasts_106 rfl ?_
      obtain ⟨r84, h86, hc85, hF⟩ := bd_s hF
      refine V.callVi mf_X12_page ml_X12_331 sh_251 (s_X12_page hc85) (by decide) rfl rfl (Nat.le_of_ble_eq_true rfl) dX12_lasts_107 ?_
      refine V.iadd dX12_lasts_110 ?_
      obtain ⟨r87, hc88, hF⟩ := bp_s hF
      refine V.callSi mf_X12_held ml_X12_334 (s_X12_held hc88) (by decide) rfl rfl (Nat.le_of_ble_eq_true rfl) dX12_lasts_111 ?_
      obtain ⟨hk, hF⟩ := ck hF
      refine V.iast io_265 hk dX12_lasts_114 ?_
      refine V.iinc (v := (x5 + (1))) 5 [(5, _), (0, _), (1, _), (2, _), (3, _), (4, _)] dX12_lasts_115 rfl rfl (by decide) rfl ?_
      refine V.goto (tgt := 65) dX12_lasts_118 rfl ?_
      exact V.sub [1, 2, 3, 4, 5, 0] rfl (ih _ _ _ _ _ _ hF)
def X12_lasts_55 (n : Nat) : Nat → Int32 → Int32 → Int32 → Int32 → Mm → Option (Int32 × Mm)
  | 0, _, _, _, _, _ => none
  | f + 1, x1, x2, x3, x4, h => (if (20 : Int32) ≤ x4 then (some ((20 : Int32), h)) else (X12_lasts_65 n (X12_lasts_55 n f) n x1 x2 x3 x4 (0 : Int32) h))
set_option maxRecDepth 100000 in
set_option maxHeartbeats 4000000 in
theorem v_X12_lasts_55 {X : WX} {G : GX} {o : Mm} {n : Nat} {rv : Int32} {hz : Mm} : ∀ (f : Nat) (x1 : Int32) (x2 : Int32) (x3 : Int32) (x4 : Int32) (h : Mm), X12_lasts_55 n f x1 x2 x3 x4 h = some (rv, hz) → V X G RX12 cX12_lasts 6 (some .int) 91 0 0 (QR X G false o (some (.int rv)) hz) false o 55 [(0, .ref (xa X 251)), (1, .int x1), (2, .int x2), (3, .int x3), (4, .int x4)] [] h := by
  intro f
  induction f with
  | zero => intro x1 x2 x3 x4 h hF; exact nomatch (show (none : Option (Int32 × Mm)) = some (rv, hz) from hF)
  | succ f ih =>
    intro x1 x2 x3 x4 h hF
    unfold X12_lasts_55 at hF
    refine V.iload 4 dX12_lasts_55 rfl ?_
    refine V.bipush (v := 20) dX12_lasts_57 (by decide) ?_
    refine V.icmp_ge (tgt := 210) dX12_lasts_59 rfl (fun c => ?_) (fun c => ?_)
    · replace hF := ip c hF
      refine V.bipush (v := 20) dX12_lasts_210 (by decide) ?_
      cases hF
      exact V.iret dX12_lasts_212
    · replace hF := iq c hF
      refine V.iconst (v := 0) dX12_lasts_62 rfl ?_
      refine V.istore [(5, _), (0, _), (1, _), (2, _), (3, _), (4, _)] dX12_lasts_63 (by decide) rfl ?_
      exact V.sub [1, 2, 3, 4, 5, 0] rfl (v_X12_lasts_65 ih n _ _ _ _ _ _ hF)
def X12_lasts (n : Nat) (x1 : Int32) (h : Mm) : Option (Int32 × Mm) := (bp (X12_isBook x1 (wI h 251 0 (0 : Int32))) (fun r89 => (if r89 = true then (bd (X12_copy n 264 265 (wI h 251 0 (0 : Int32))) (fun _ h93 => (if inB (23 : Int32) (aln 265) then (if inB (((3 : Int32) * (h93.1 265 (23 : Int32).toNatClampNeg)) + (1 : Int32)) (aln 265) then (bp (X12_kindOf x1 h93) (fun r94 => (X12_lasts_55 n n x1 (h93.1 265 (((3 : Int32) * (h93.1 265 (23 : Int32).toNatClampNeg)) + (1 : Int32)).toNatClampNeg) ((18 : Int32) + r94) (0 : Int32) h93))) else none) else none))) else (some ((-1 : Int32), (wI h 251 0 (0 : Int32)))))))
set_option maxRecDepth 100000 in
set_option maxHeartbeats 4000000 in
theorem s_X12_lasts {X : WX} {o : Mm} {n : Nat} {x1 : Int32} {rv : Int32} {hz : Mm} {h : Mm} (hF : X12_lasts n x1 h = some (rv, hz)) : Sat X yX12_lasts cX12_lasts 6 (some .int) 91 [.ref (xa X 251), .int x1] false o h (some (.int rv)) hz := by
  unfold X12_lasts at hF
  refine Sat.mk (own := RX12) rfl (by decide +kernel) (Nat.le_of_ble_eq_true rfl) (fun G => ?_)
  refine V.sub (lv2 := [(0, _), (1, _)]) [0, 1] rfl ?_
  refine V.aload_n 0 dX12_lasts_0 rfl rfl ?_
  refine V.iconst (v := 0) dX12_lasts_1 rfl ?_
  refine V.putI fl_X12_93 rfl (tyX12_ok 0 (by decide)) rfl rfl sh_251 rfl km_251 dX12_lasts_2 ?_
  refine V.aload_n 0 dX12_lasts_5 rfl rfl ?_
  refine V.iload_n 1 dX12_lasts_6 rfl rfl ?_
  obtain ⟨r89, hc90, hF⟩ := bp_s hF
  refine V.callVi mf_X12_isBook ml_X12_319 sh_251 (s_X12_isBook hc90) (by decide) rfl rfl (Nat.le_of_ble_eq_true rfl) dX12_lasts_7 ?_
  refine V.ifz_ne (tgt := 15) dX12_lasts_10 rfl (fun c => ?_) (fun c => ?_)
  · replace hF := ip c hF
    refine V.aload_n 0 dX12_lasts_15 rfl rfl ?_
    refine V.getR (v := 264) fl_X12_61 sh_251 rfl fx_251_32 (by decide) dX12_lasts_16 ?_
    refine V.aload_n 0 dX12_lasts_19 rfl rfl ?_
    refine V.getR (v := 265) fl_X12_64 sh_251 rfl fx_251_33 (by decide) dX12_lasts_20 ?_
    obtain ⟨r91, h93, hc92, hF⟩ := bd_s hF
    refine V.callSv mf_X12_copy ml_X12_401 (s_X12_copy io_264 io_265 hc92) (by decide) rfl rfl (Nat.le_of_ble_eq_true rfl) dX12_lasts_23 ?_
    refine V.aload_n 0 dX12_lasts_26 rfl rfl ?_
    refine V.getR (v := 265) fl_X12_64 sh_251 rfl fx_251_33 (by decide) dX12_lasts_27 ?_
    refine V.iconst (v := 3) dX12_lasts_30 rfl ?_
    refine V.aload_n 0 dX12_lasts_31 rfl rfl ?_
    refine V.getR (v := 265) fl_X12_64 sh_251 rfl fx_251_33 (by decide) dX12_lasts_32 ?_
    refine V.bipush (v := 23) dX12_lasts_35 (by decide) ?_
    obtain ⟨hk, hF⟩ := ck hF
    refine V.iald io_265 hk dX12_lasts_37 ?_
    refine V.imul dX12_lasts_38 ?_
    refine V.iconst (v := 1) dX12_lasts_39 rfl ?_
    refine V.iadd dX12_lasts_40 ?_
    obtain ⟨hk, hF⟩ := ck hF
    refine V.iald io_265 hk dX12_lasts_41 ?_
    refine V.istore_n [(2, _), (0, _), (1, _)] dX12_lasts_42 rfl (by decide) rfl ?_
    refine V.bipush (v := 18) dX12_lasts_43 (by decide) ?_
    refine V.aload_n 1 dX12_lasts_45 rfl rfl ?_
    refine V.iload_n 2 dX12_lasts_46 rfl rfl ?_
    obtain ⟨r94, hc95, hF⟩ := bp_s hF
    refine V.callVi mf_X12_kindOf ml_X12_328 sh_251 (s_X12_kindOf hc95) (by decide) rfl rfl (Nat.le_of_ble_eq_true rfl) dX12_lasts_47 ?_
    refine V.iadd dX12_lasts_50 ?_
    refine V.istore_n [(3, _), (2, _), (0, _), (1, _)] dX12_lasts_51 rfl (by decide) rfl ?_
    refine V.iconst (v := 0) dX12_lasts_52 rfl ?_
    refine V.istore [(4, _), (3, _), (2, _), (0, _), (1, _)] dX12_lasts_53 (by decide) rfl ?_
    exact V.sub [3, 4, 2, 1, 0] rfl (v_X12_lasts_55 n _ _ _ _ _ hF)
  · replace hF := iq c hF
    refine V.iconst (v := -1) dX12_lasts_13 rfl ?_
    cases hF
    exact V.iret dX12_lasts_14
/-! MonsterCotModel.quiet -/
theorem dX12_quiet_0 : decode cX12_quiet 0 = .ok (.aload_n 0, 1) := by decide +kernel
theorem dX12_quiet_1 : decode cX12_quiet 1 = .ok (.iconst 0, 1) := by decide +kernel
theorem dX12_quiet_2 : decode cX12_quiet 2 = .ok (.putfield 93, 3) := by decide +kernel
theorem dX12_quiet_5 : decode cX12_quiet 5 = .ok (.aload_n 0, 1) := by decide +kernel
theorem dX12_quiet_6 : decode cX12_quiet 6 = .ok (.getfield 291, 3) := by decide +kernel
theorem dX12_quiet_9 : decode cX12_quiet 9 = .ok (.ifCond .ne 5, 3) := by decide +kernel
theorem dX12_quiet_12 : decode cX12_quiet 12 = .ok (.iconst (-1), 1) := by decide +kernel
theorem dX12_quiet_13 : decode cX12_quiet 13 = .ok (.ireturn, 1) := by decide +kernel
theorem dX12_quiet_14 : decode cX12_quiet 14 = .ok (.aload_n 0, 1) := by decide +kernel
theorem dX12_quiet_15 : decode cX12_quiet 15 = .ok (.getfield 61, 3) := by decide +kernel
theorem dX12_quiet_18 : decode cX12_quiet 18 = .ok (.bipush 22, 2) := by decide +kernel
theorem dX12_quiet_20 : decode cX12_quiet 20 = .ok (.iaload, 1) := by decide +kernel
theorem dX12_quiet_21 : decode cX12_quiet 21 = .ok (.istore_n 1, 1) := by decide +kernel
theorem dX12_quiet_22 : decode cX12_quiet 22 = .ok (.iconst 0, 1) := by decide +kernel
theorem dX12_quiet_23 : decode cX12_quiet 23 = .ok (.istore_n 2, 1) := by decide +kernel
theorem dX12_quiet_24 : decode cX12_quiet 24 = .ok (.iload_n 2, 1) := by decide +kernel
theorem dX12_quiet_25 : decode cX12_quiet 25 = .ok (.bipush 60, 2) := by decide +kernel
theorem dX12_quiet_27 : decode cX12_quiet 27 = .ok (.if_icmp .gt 21, 3) := by decide +kernel
theorem dX12_quiet_30 : decode cX12_quiet 30 = .ok (.iload_n 1, 1) := by decide +kernel
theorem dX12_quiet_31 : decode cX12_quiet 31 = .ok (.ifCond .ne 5, 3) := by decide +kernel
theorem dX12_quiet_34 : decode cX12_quiet 34 = .ok (.iload_n 2, 1) := by decide +kernel
theorem dX12_quiet_35 : decode cX12_quiet 35 = .ok (.ireturn, 1) := by decide +kernel
theorem dX12_quiet_36 : decode cX12_quiet 36 = .ok (.aload_n 0, 1) := by decide +kernel
theorem dX12_quiet_37 : decode cX12_quiet 37 = .ok (.iload_n 1, 1) := by decide +kernel
theorem dX12_quiet_38 : decode cX12_quiet 38 = .ok (.invokevirtual 343, 3) := by decide +kernel
theorem dX12_quiet_41 : decode cX12_quiet 41 = .ok (.istore_n 1, 1) := by decide +kernel
theorem dX12_quiet_42 : decode cX12_quiet 42 = .ok (.iinc 2 1, 3) := by decide +kernel
theorem dX12_quiet_45 : decode cX12_quiet 45 = .ok (.goto (-21), 3) := by decide +kernel
theorem dX12_quiet_48 : decode cX12_quiet 48 = .ok (.iconst (-1), 1) := by decide +kernel
theorem dX12_quiet_49 : decode cX12_quiet 49 = .ok (.ireturn, 1) := by decide +kernel
def X12_quiet_24 (n : Nat) : Nat → Int32 → Int32 → Mm → Option (Int32 × Mm)
  | 0, _, _, _ => none
  | f + 1, x1, x2, h => (if (60 : Int32) < x2 then (some ((-1 : Int32), h)) else (if x1 = 0 then (some (x2, h)) else (bp (X12_behind x1 h) (fun r5 => ((X12_quiet_24 n f) r5 (x2 + (1)) h)))))
set_option maxRecDepth 100000 in
set_option maxHeartbeats 4000000 in
theorem v_X12_quiet_24 {X : WX} {G : GX} {o : Mm} {n : Nat} {rv : Int32} {hz : Mm} : ∀ (f : Nat) (x1 : Int32) (x2 : Int32) (h : Mm), X12_quiet_24 n f x1 x2 h = some (rv, hz) → V X G RX12 cX12_quiet 3 (some .int) 3 0 0 (QR X G false o (some (.int rv)) hz) false o 24 [(0, .ref (xa X 251)), (1, .int x1), (2, .int x2)] [] h := by
  intro f
  induction f with
  | zero => intro x1 x2 h hF; exact nomatch (show (none : Option (Int32 × Mm)) = some (rv, hz) from hF)
  | succ f ih =>
    intro x1 x2 h hF
    unfold X12_quiet_24 at hF
    refine V.iload_n 2 dX12_quiet_24 rfl rfl ?_
    refine V.bipush (v := 60) dX12_quiet_25 (by decide) ?_
    refine V.icmp_gt (tgt := 48) dX12_quiet_27 rfl (fun c => ?_) (fun c => ?_)
    · replace hF := ip c hF
      refine V.iconst (v := -1) dX12_quiet_48 rfl ?_
      cases hF
      exact V.iret dX12_quiet_49
    · replace hF := iq c hF
      refine V.iload_n 1 dX12_quiet_30 rfl rfl ?_
      refine V.if_ne (tgt := 36) dX12_quiet_31 rfl (fun c => ?_) (fun c => ?_)
      · replace hF := iq c hF
        refine V.aload_n 0 dX12_quiet_36 rfl rfl ?_
        refine V.iload_n 1 dX12_quiet_37 rfl rfl ?_
        obtain ⟨r5, hc6, hF⟩ := bp_s hF
        refine V.callVi mf_X12_behind ml_X12_343 sh_251 (s_X12_behind hc6) (by decide) rfl rfl (Nat.le_of_ble_eq_true rfl) dX12_quiet_38 ?_
        refine V.istore_n [(1, _), (0, _), (2, _)] dX12_quiet_41 rfl (by decide) rfl ?_
        refine V.iinc (v := (x2 + (1))) 2 [(2, _), (1, _), (0, _)] dX12_quiet_42 rfl rfl (by decide) rfl ?_
        refine V.goto (tgt := 24) dX12_quiet_45 rfl ?_
        exact V.sub [2, 1, 0] rfl (ih _ _ _ hF)
      · replace hF := ip c hF
        refine V.iload_n 2 dX12_quiet_34 rfl rfl ?_
        cases hF
        exact V.iret dX12_quiet_35
def X12_quiet (n : Nat) (h : Mm) : Option (Int32 × Mm) := (if ((wI h 251 0 (0 : Int32)).1 251 27) = 0 then (some ((-1 : Int32), (wI h 251 0 (0 : Int32)))) else (if inB (22 : Int32) (aln 264) then (X12_quiet_24 n n ((wI h 251 0 (0 : Int32)).1 264 (22 : Int32).toNatClampNeg) (0 : Int32) (wI h 251 0 (0 : Int32))) else none))
set_option maxRecDepth 100000 in
set_option maxHeartbeats 4000000 in
theorem s_X12_quiet {X : WX} {o : Mm} {n : Nat} {rv : Int32} {hz : Mm} {h : Mm} (hF : X12_quiet n h = some (rv, hz)) : Sat X yX12_quiet cX12_quiet 3 (some .int) 3 [.ref (xa X 251)] false o h (some (.int rv)) hz := by
  unfold X12_quiet at hF
  refine Sat.mk (own := RX12) rfl (by decide +kernel) (Nat.le_of_ble_eq_true rfl) (fun G => ?_)
  refine V.sub (lv2 := [(0, _)]) [0] rfl ?_
  refine V.aload_n 0 dX12_quiet_0 rfl rfl ?_
  refine V.iconst (v := 0) dX12_quiet_1 rfl ?_
  refine V.putI fl_X12_93 rfl (tyX12_ok 0 (by decide)) rfl rfl sh_251 rfl km_251 dX12_quiet_2 ?_
  refine V.aload_n 0 dX12_quiet_5 rfl rfl ?_
  refine V.getI fl_X12_291 sh_251 rfl km_251 dX12_quiet_6 ?_
  refine V.if_ne (tgt := 14) dX12_quiet_9 rfl (fun c => ?_) (fun c => ?_)
  · replace hF := iq c hF
    refine V.aload_n 0 dX12_quiet_14 rfl rfl ?_
    refine V.getR (v := 264) fl_X12_61 sh_251 rfl fx_251_32 (by decide) dX12_quiet_15 ?_
    refine V.bipush (v := 22) dX12_quiet_18 (by decide) ?_
    obtain ⟨hk, hF⟩ := ck hF
    refine V.iald io_264 hk dX12_quiet_20 ?_
    refine V.istore_n [(1, _), (0, _)] dX12_quiet_21 rfl (by decide) rfl ?_
    refine V.iconst (v := 0) dX12_quiet_22 rfl ?_
    refine V.istore_n [(2, _), (1, _), (0, _)] dX12_quiet_23 rfl (by decide) rfl ?_
    exact V.sub [2, 1, 0] rfl (v_X12_quiet_24 n _ _ _ hF)
  · replace hF := ip c hF
    refine V.iconst (v := -1) dX12_quiet_12 rfl ?_
    cases hF
    exact V.iret dX12_quiet_13
/-! MonsterCotModel.valueOf -/
theorem dX12_valueOf_0 : decode cX12_valueOf 0 = .ok (.iload_n 1, 1) := by decide +kernel
theorem dX12_valueOf_1 : decode cX12_valueOf 1 = .ok (.tableswitch 71 0 3 #[31, 71, 43, 60], 31) := by decide +kernel
theorem dX12_valueOf_32 : decode cX12_valueOf 32 = .ok (.aload_n 0, 1) := by decide +kernel
theorem dX12_valueOf_33 : decode cX12_valueOf 33 = .ok (.getfield 61, 3) := by decide +kernel
theorem dX12_valueOf_36 : decode cX12_valueOf 36 = .ok (.iconst 3, 1) := by decide +kernel
theorem dX12_valueOf_37 : decode cX12_valueOf 37 = .ok (.iload_n 2, 1) := by decide +kernel
theorem dX12_valueOf_38 : decode cX12_valueOf 38 = .ok (.imul, 1) := by decide +kernel
theorem dX12_valueOf_39 : decode cX12_valueOf 39 = .ok (.iconst 2, 1) := by decide +kernel
theorem dX12_valueOf_40 : decode cX12_valueOf 40 = .ok (.iadd, 1) := by decide +kernel
theorem dX12_valueOf_41 : decode cX12_valueOf 41 = .ok (.iaload, 1) := by decide +kernel
theorem dX12_valueOf_42 : decode cX12_valueOf 42 = .ok (.ineg, 1) := by decide +kernel
theorem dX12_valueOf_43 : decode cX12_valueOf 43 = .ok (.ireturn, 1) := by decide +kernel
theorem dX12_valueOf_44 : decode cX12_valueOf 44 = .ok (.aload_n 0, 1) := by decide +kernel
theorem dX12_valueOf_45 : decode cX12_valueOf 45 = .ok (.iload_n 2, 1) := by decide +kernel
theorem dX12_valueOf_46 : decode cX12_valueOf 46 = .ok (.invokevirtual 325, 3) := by decide +kernel
theorem dX12_valueOf_49 : decode cX12_valueOf 49 = .ok (.aload_n 0, 1) := by decide +kernel
theorem dX12_valueOf_50 : decode cX12_valueOf 50 = .ok (.getfield 61, 3) := by decide +kernel
theorem dX12_valueOf_53 : decode cX12_valueOf 53 = .ok (.iconst 3, 1) := by decide +kernel
theorem dX12_valueOf_54 : decode cX12_valueOf 54 = .ok (.iload_n 2, 1) := by decide +kernel
theorem dX12_valueOf_55 : decode cX12_valueOf 55 = .ok (.imul, 1) := by decide +kernel
theorem dX12_valueOf_56 : decode cX12_valueOf 56 = .ok (.iconst 0, 1) := by decide +kernel
theorem dX12_valueOf_57 : decode cX12_valueOf 57 = .ok (.iadd, 1) := by decide +kernel
theorem dX12_valueOf_58 : decode cX12_valueOf 58 = .ok (.iaload, 1) := by decide +kernel
theorem dX12_valueOf_59 : decode cX12_valueOf 59 = .ok (.isub, 1) := by decide +kernel
theorem dX12_valueOf_60 : decode cX12_valueOf 60 = .ok (.ireturn, 1) := by decide +kernel
theorem dX12_valueOf_61 : decode cX12_valueOf 61 = .ok (.aload_n 0, 1) := by decide +kernel
theorem dX12_valueOf_62 : decode cX12_valueOf 62 = .ok (.getfield 61, 3) := by decide +kernel
theorem dX12_valueOf_65 : decode cX12_valueOf 65 = .ok (.iconst 3, 1) := by decide +kernel
theorem dX12_valueOf_66 : decode cX12_valueOf 66 = .ok (.iload_n 2, 1) := by decide +kernel
theorem dX12_valueOf_67 : decode cX12_valueOf 67 = .ok (.imul, 1) := by decide +kernel
theorem dX12_valueOf_68 : decode cX12_valueOf 68 = .ok (.iconst 1, 1) := by decide +kernel
theorem dX12_valueOf_69 : decode cX12_valueOf 69 = .ok (.iadd, 1) := by decide +kernel
theorem dX12_valueOf_70 : decode cX12_valueOf 70 = .ok (.iaload, 1) := by decide +kernel
theorem dX12_valueOf_71 : decode cX12_valueOf 71 = .ok (.ireturn, 1) := by decide +kernel
theorem dX12_valueOf_72 : decode cX12_valueOf 72 = .ok (.aload_n 0, 1) := by decide +kernel
theorem dX12_valueOf_73 : decode cX12_valueOf 73 = .ok (.getfield 49, 3) := by decide +kernel
theorem dX12_valueOf_76 : decode cX12_valueOf 76 = .ok (.iconst 3, 1) := by decide +kernel
theorem dX12_valueOf_77 : decode cX12_valueOf 77 = .ok (.iload_n 2, 1) := by decide +kernel
theorem dX12_valueOf_78 : decode cX12_valueOf 78 = .ok (.imul, 1) := by decide +kernel
theorem dX12_valueOf_79 : decode cX12_valueOf 79 = .ok (.iaload, 1) := by decide +kernel
theorem dX12_valueOf_80 : decode cX12_valueOf 80 = .ok (.ireturn, 1) := by decide +kernel
def X12_valueOf_72 (x2 : Int32) (h : Mm) : Option Int32 := (if inB ((3 : Int32) * x2) (aln 260) then (some (h.1 260 ((3 : Int32) * x2).toNatClampNeg)) else none)
set_option maxRecDepth 100000 in
set_option maxHeartbeats 4000000 in
theorem v_X12_valueOf_72 {X : WX} {G : GX} {o : Mm} {rv : Int32} {h : Mm} {x2 : Int32} (hF : X12_valueOf_72  x2 h = some rv) : V X G RX12 cX12_valueOf 3 (some .int) 2 0 0 (QR X G false o (some (.int rv)) h) false o 72 [(0, .ref (xa X 251)), (2, .int x2)] [] h := by
  unfold X12_valueOf_72 at hF
  refine V.aload_n 0 dX12_valueOf_72 rfl rfl ?_
  refine V.getR (v := 260) fl_X12_49 sh_251 rfl fx_251_22 (by decide) dX12_valueOf_73 ?_
  refine V.iconst (v := 3) dX12_valueOf_76 rfl ?_
  refine V.iload_n 1 dX12_valueOf_77 rfl rfl ?_
  refine V.imul dX12_valueOf_78 ?_
  obtain ⟨hk, hF⟩ := ck hF
  refine V.iald io_260 hk dX12_valueOf_79 ?_
  cases hF
  exact V.iret dX12_valueOf_80
def X12_valueOf (x1 : Int32) (x2 : Int32) (h : Mm) : Option Int32 := (if x1 = 0 then (if inB (((3 : Int32) * x2) + (2 : Int32)) (aln 264) then (some (-(h.1 264 (((3 : Int32) * x2) + (2 : Int32)).toNatClampNeg))) else none) else (if x1 = 1 then (X12_valueOf_72 x2 h) else (if x1 = 2 then (bp (X12_strength x2 h) (fun r5 => (if inB (((3 : Int32) * x2) + (0 : Int32)) (aln 264) then (some (r5 - (h.1 264 (((3 : Int32) * x2) + (0 : Int32)).toNatClampNeg))) else none))) else (if x1 = 3 then (if inB (((3 : Int32) * x2) + (1 : Int32)) (aln 264) then (some (h.1 264 (((3 : Int32) * x2) + (1 : Int32)).toNatClampNeg)) else none) else (X12_valueOf_72 x2 h)))))
set_option maxRecDepth 100000 in
set_option maxHeartbeats 4000000 in
theorem s_X12_valueOf {X : WX} {o : Mm} {x1 : Int32} {x2 : Int32} {rv : Int32} {h : Mm} (hF : X12_valueOf x1 x2 h = some rv) : Sat X yX12_valueOf cX12_valueOf 3 (some .int) 2 [.ref (xa X 251), .int x1, .int x2] false o h (some (.int rv)) h := by
  unfold X12_valueOf at hF
  refine Sat.mk (own := RX12) rfl (by decide +kernel) (Nat.le_of_ble_eq_true rfl) (fun G => ?_)
  refine V.sub (lv2 := [(0, _), (1, _), (2, _)]) [0, 1, 2] rfl ?_
  refine V.iload_n 1 dX12_valueOf_0 rfl rfl ?_
  by_cases c0 : x1 = 0
  · replace hF := ip c0 hF
    refine V.tswIn (tgt := 32) c0 dX12_valueOf_1 (by decide) (by decide) rfl rfl ?_
    refine V.aload_n 0 dX12_valueOf_32 rfl rfl ?_
    refine V.getR (v := 264) fl_X12_61 sh_251 rfl fx_251_32 (by decide) dX12_valueOf_33 ?_
    refine V.iconst (v := 3) dX12_valueOf_36 rfl ?_
    refine V.iload_n 2 dX12_valueOf_37 rfl rfl ?_
    refine V.imul dX12_valueOf_38 ?_
    refine V.iconst (v := 2) dX12_valueOf_39 rfl ?_
    refine V.iadd dX12_valueOf_40 ?_
    obtain ⟨hk, hF⟩ := ck hF
    refine V.iald io_264 hk dX12_valueOf_41 ?_
    refine V.ineg dX12_valueOf_42 ?_
    cases hF
    exact V.iret dX12_valueOf_43
  replace hF := iq c0 hF
  by_cases c1 : x1 = 1
  · replace hF := ip c1 hF
    refine V.tswIn (tgt := 72) c1 dX12_valueOf_1 (by decide) (by decide) rfl rfl ?_
    exact V.sub [0, 2] rfl (v_X12_valueOf_72 hF)
  replace hF := iq c1 hF
  by_cases c2 : x1 = 2
  · replace hF := ip c2 hF
    refine V.tswIn (tgt := 44) c2 dX12_valueOf_1 (by decide) (by decide) rfl rfl ?_
    refine V.aload_n 0 dX12_valueOf_44 rfl rfl ?_
    refine V.iload_n 2 dX12_valueOf_45 rfl rfl ?_
    obtain ⟨r5, hc6, hF⟩ := bp_s hF
    refine V.callVi mf_X12_strength ml_X12_325 sh_251 (s_X12_strength hc6) (by decide) rfl rfl (Nat.le_of_ble_eq_true rfl) dX12_valueOf_46 ?_
    refine V.aload_n 0 dX12_valueOf_49 rfl rfl ?_
    refine V.getR (v := 264) fl_X12_61 sh_251 rfl fx_251_32 (by decide) dX12_valueOf_50 ?_
    refine V.iconst (v := 3) dX12_valueOf_53 rfl ?_
    refine V.iload_n 2 dX12_valueOf_54 rfl rfl ?_
    refine V.imul dX12_valueOf_55 ?_
    refine V.iconst (v := 0) dX12_valueOf_56 rfl ?_
    refine V.iadd dX12_valueOf_57 ?_
    obtain ⟨hk, hF⟩ := ck hF
    refine V.iald io_264 hk dX12_valueOf_58 ?_
    refine V.isub dX12_valueOf_59 ?_
    cases hF
    exact V.iret dX12_valueOf_60
  replace hF := iq c2 hF
  by_cases c3 : x1 = 3
  · replace hF := ip c3 hF
    refine V.tswIn (tgt := 61) c3 dX12_valueOf_1 (by decide) (by decide) rfl rfl ?_
    refine V.aload_n 0 dX12_valueOf_61 rfl rfl ?_
    refine V.getR (v := 264) fl_X12_61 sh_251 rfl fx_251_32 (by decide) dX12_valueOf_62 ?_
    refine V.iconst (v := 3) dX12_valueOf_65 rfl ?_
    refine V.iload_n 2 dX12_valueOf_66 rfl rfl ?_
    refine V.imul dX12_valueOf_67 ?_
    refine V.iconst (v := 1) dX12_valueOf_68 rfl ?_
    refine V.iadd dX12_valueOf_69 ?_
    obtain ⟨hk, hF⟩ := ck hF
    refine V.iald io_264 hk dX12_valueOf_70 ?_
    cases hF
    exact V.iret dX12_valueOf_71
  replace hF := iq c3 hF
  refine V.tswOut (tgt := 72) dX12_valueOf_1 (tsw_out (by decide) (by decide) [0, 1, 2, 3] rfl (fun v hv => ?_)) rfl ?_
  · simp only [List.mem_cons, List.not_mem_nil, or_false] at hv
    rcases hv with rfl | rfl | rfl | rfl <;> assumption
  exact V.sub [0, 2] rfl (v_X12_valueOf_72 hF)
/-! MonsterCotModel.longest -/
theorem dX12_longest_0 : decode cX12_longest 0 = .ok (.iconst 0, 1) := by decide +kernel
theorem dX12_longest_1 : decode cX12_longest 1 = .ok (.istore_n 1, 1) := by decide +kernel
theorem dX12_longest_2 : decode cX12_longest 2 = .ok (.iconst 1, 1) := by decide +kernel
theorem dX12_longest_3 : decode cX12_longest 3 = .ok (.istore_n 2, 1) := by decide +kernel
theorem dX12_longest_4 : decode cX12_longest 4 = .ok (.iload_n 2, 1) := by decide +kernel
theorem dX12_longest_5 : decode cX12_longest 5 = .ok (.aload_n 0, 1) := by decide +kernel
theorem dX12_longest_6 : decode cX12_longest 6 = .ok (.getfield 288, 3) := by decide +kernel
theorem dX12_longest_9 : decode cX12_longest 9 = .ok (.if_icmp .ge 28, 3) := by decide +kernel
theorem dX12_longest_12 : decode cX12_longest 12 = .ok (.aload_n 0, 1) := by decide +kernel
theorem dX12_longest_13 : decode cX12_longest 13 = .ok (.iload_n 2, 1) := by decide +kernel
theorem dX12_longest_14 : decode cX12_longest 14 = .ok (.invokevirtual 322, 3) := by decide +kernel
theorem dX12_longest_17 : decode cX12_longest 17 = .ok (.aload_n 0, 1) := by decide +kernel
theorem dX12_longest_18 : decode cX12_longest 18 = .ok (.iload_n 1, 1) := by decide +kernel
theorem dX12_longest_19 : decode cX12_longest 19 = .ok (.invokevirtual 322, 3) := by decide +kernel
theorem dX12_longest_22 : decode cX12_longest 22 = .ok (.if_icmp .le 7, 3) := by decide +kernel
theorem dX12_longest_25 : decode cX12_longest 25 = .ok (.iload_n 2, 1) := by decide +kernel
theorem dX12_longest_26 : decode cX12_longest 26 = .ok (.goto 4, 3) := by decide +kernel
theorem dX12_longest_29 : decode cX12_longest 29 = .ok (.iload_n 1, 1) := by decide +kernel
theorem dX12_longest_30 : decode cX12_longest 30 = .ok (.istore_n 1, 1) := by decide +kernel
theorem dX12_longest_31 : decode cX12_longest 31 = .ok (.iinc 2 1, 3) := by decide +kernel
theorem dX12_longest_34 : decode cX12_longest 34 = .ok (.goto (-30), 3) := by decide +kernel
theorem dX12_longest_37 : decode cX12_longest 37 = .ok (.iload_n 1, 1) := by decide +kernel
theorem dX12_longest_38 : decode cX12_longest 38 = .ok (.ireturn, 1) := by decide +kernel
def X12_longest_30 (n : Nat) (K4 : Int32 → Int32 → Mm → Option Int32) (x2 : Int32) (s0 : Int32) (h : Mm) : Option Int32 := (K4 s0 (x2 + (1)) h)
set_option maxRecDepth 100000 in
set_option maxHeartbeats 4000000 in
theorem v_X12_longest_30 {X : WX} {G : GX} {o : Mm} {n : Nat} {K4 : Int32 → Int32 → Mm → Option Int32} {rv : Int32} {h : Mm} (hK4 : ∀ (x1 : Int32) (x2 : Int32), K4 x1 x2 h = some rv → V X G RX12 cX12_longest 3 (some .int) 2 0 0 (QR X G false o (some (.int rv)) h) false o 4 [(0, .ref (xa X 251)), (1, .int x1), (2, .int x2)] [] h) {x2 : Int32} {s0 : Int32} (hF : X12_longest_30 n K4 x2 s0 h = some rv) : V X G RX12 cX12_longest 3 (some .int) 2 0 0 (QR X G false o (some (.int rv)) h) false o 30 [(0, .ref (xa X 251)), (2, .int x2)] [.int s0] h := by
  unfold X12_longest_30 at hF
  refine V.istore_n [(1, _), (0, _), (2, _)] dX12_longest_30 rfl (by decide) rfl ?_
  refine V.iinc (v := (x2 + (1))) 2 [(2, _), (1, _), (0, _)] dX12_longest_31 rfl rfl (by decide) rfl ?_
  refine V.goto (tgt := 4) dX12_longest_34 rfl ?_
  exact V.sub [2, 1, 0] rfl (hK4 _ _ hF)
def X12_longest_4 (n : Nat) : Nat → Int32 → Int32 → Mm → Option Int32
  | 0, _, _, _ => none
  | f + 1, x1, x2, h => (if (h.1 251 26) ≤ x2 then (some x1) else (bp (X12_pagesOf x2 h) (fun r17 => (bp (X12_pagesOf x1 h) (fun r19 => (if r17 ≤ r19 then (X12_longest_30 n (X12_longest_4 n f) x2 x1 h) else (X12_longest_30 n (X12_longest_4 n f) x2 x2 h)))))))
set_option maxRecDepth 100000 in
set_option maxHeartbeats 4000000 in
theorem v_X12_longest_4 {X : WX} {G : GX} {o : Mm} {n : Nat} {rv : Int32} {h : Mm} : ∀ (f : Nat) (x1 : Int32) (x2 : Int32), X12_longest_4 n f x1 x2 h = some rv → V X G RX12 cX12_longest 3 (some .int) 2 0 0 (QR X G false o (some (.int rv)) h) false o 4 [(0, .ref (xa X 251)), (1, .int x1), (2, .int x2)] [] h := by
  intro f
  induction f with
  | zero => intro x1 x2 hF; exact nomatch (show (none : Option Int32) = some rv from hF)
  | succ f ih =>
    intro x1 x2 hF
    unfold X12_longest_4 at hF
    refine V.iload_n 2 dX12_longest_4 rfl rfl ?_
    refine V.aload_n 0 dX12_longest_5 rfl rfl ?_
    refine V.getI fl_X12_288 sh_251 rfl km_251 dX12_longest_6 ?_
    refine V.icmp_ge (tgt := 37) dX12_longest_9 rfl (fun c => ?_) (fun c => ?_)
    · replace hF := ip c hF
      refine V.iload_n 1 dX12_longest_37 rfl rfl ?_
      cases hF
      exact V.iret dX12_longest_38
    · replace hF := iq c hF
      refine V.aload_n 0 dX12_longest_12 rfl rfl ?_
      refine V.iload_n 2 dX12_longest_13 rfl rfl ?_
      obtain ⟨r17, hc18, hF⟩ := bp_s hF
      refine V.callVi mf_X12_pagesOf ml_X12_322 sh_251 (s_X12_pagesOf hc18) (by decide) rfl rfl (Nat.le_of_ble_eq_true rfl) dX12_longest_14 ?_
      refine V.aload_n 0 dX12_longest_17 rfl rfl ?_
      refine V.iload_n 1 dX12_longest_18 rfl rfl ?_
      obtain ⟨r19, hc20, hF⟩ := bp_s hF
      refine V.callVi mf_X12_pagesOf ml_X12_322 sh_251 (s_X12_pagesOf hc20) (by decide) rfl rfl (Nat.le_of_ble_eq_true rfl) dX12_longest_19 ?_
      refine V.icmp_le (tgt := 29) dX12_longest_22 rfl (fun c => ?_) (fun c => ?_)
      · replace hF := ip c hF
        refine V.iload_n 1 dX12_longest_29 rfl rfl ?_
        exact V.sub [0, 2] rfl (v_X12_longest_30 ih hF)
      · replace hF := iq c hF
        refine V.iload_n 2 dX12_longest_25 rfl rfl ?_
        refine V.goto (tgt := 30) dX12_longest_26 rfl ?_
        exact V.sub [0, 2] rfl (v_X12_longest_30 ih hF)
def X12_longest (n : Nat) (h : Mm) : Option Int32 := (X12_longest_4 n n (0 : Int32) (1 : Int32) h)
set_option maxRecDepth 100000 in
set_option maxHeartbeats 4000000 in
theorem s_X12_longest {X : WX} {o : Mm} {n : Nat} {rv : Int32} {h : Mm} (hF : X12_longest n h = some rv) : Sat X yX12_longest cX12_longest 3 (some .int) 2 [.ref (xa X 251)] false o h (some (.int rv)) h := by
  unfold X12_longest at hF
  refine Sat.mk (own := RX12) rfl (by decide +kernel) (Nat.le_of_ble_eq_true rfl) (fun G => ?_)
  refine V.sub (lv2 := [(0, _)]) [0] rfl ?_
  refine V.iconst (v := 0) dX12_longest_0 rfl ?_
  refine V.istore_n [(1, _), (0, _)] dX12_longest_1 rfl (by decide) rfl ?_
  refine V.iconst (v := 1) dX12_longest_2 rfl ?_
  refine V.istore_n [(2, _), (1, _), (0, _)] dX12_longest_3 rfl (by decide) rfl ?_
  exact V.sub [2, 1, 0] rfl (v_X12_longest_4 n _ _ hF)
/-! MonsterCotModel.all -/
theorem dX12_all_0 : decode cX12_all 0 = .ok (.aload_n 0, 1) := by decide +kernel
theorem dX12_all_1 : decode cX12_all 1 = .ok (.iconst 0, 1) := by decide +kernel
theorem dX12_all_2 : decode cX12_all 2 = .ok (.putfield 93, 3) := by decide +kernel
theorem dX12_all_5 : decode cX12_all 5 = .ok (.aload_n 0, 1) := by decide +kernel
theorem dX12_all_6 : decode cX12_all 6 = .ok (.getfield 291, 3) := by decide +kernel
theorem dX12_all_9 : decode cX12_all 9 = .ok (.ifCond .eq 15, 3) := by decide +kernel
theorem dX12_all_12 : decode cX12_all 12 = .ok (.iload_n 1, 1) := by decide +kernel
theorem dX12_all_13 : decode cX12_all 13 = .ok (.i2l, 1) := by decide +kernel
theorem dX12_all_14 : decode cX12_all 14 = .ok (.lconst 0, 1) := by decide +kernel
theorem dX12_all_15 : decode cX12_all 15 = .ok (.ldc2_w 467, 3) := by decide +kernel
theorem dX12_all_18 : decode cX12_all 18 = .ok (.invokestatic 214, 3) := by decide +kernel
theorem dX12_all_21 : decode cX12_all 21 = .ok (.ifCond .ne 5, 3) := by decide +kernel
theorem dX12_all_24 : decode cX12_all 24 = .ok (.iconst (-1), 1) := by decide +kernel
theorem dX12_all_25 : decode cX12_all 25 = .ok (.ireturn, 1) := by decide +kernel
theorem dX12_all_26 : decode cX12_all 26 = .ok (.iload_n 1, 1) := by decide +kernel
theorem dX12_all_27 : decode cX12_all 27 = .ok (.iconst 1, 1) := by decide +kernel
theorem dX12_all_28 : decode cX12_all 28 = .ok (.if_icmp .ne 23, 3) := by decide +kernel
theorem dX12_all_31 : decode cX12_all 31 = .ok (.aload_n 0, 1) := by decide +kernel
theorem dX12_all_32 : decode cX12_all 32 = .ok (.aload_n 0, 1) := by decide +kernel
theorem dX12_all_33 : decode cX12_all 33 = .ok (.getfield 61, 3) := by decide +kernel
theorem dX12_all_36 : decode cX12_all 36 = .ok (.bipush 22, 2) := by decide +kernel
theorem dX12_all_38 : decode cX12_all 38 = .ok (.iaload, 1) := by decide +kernel
theorem dX12_all_39 : decode cX12_all 39 = .ok (.invokevirtual 340, 3) := by decide +kernel
theorem dX12_all_42 : decode cX12_all 42 = .ok (.ifCond .eq 7, 3) := by decide +kernel
theorem dX12_all_45 : decode cX12_all 45 = .ok (.iconst 1, 1) := by decide +kernel
theorem dX12_all_46 : decode cX12_all 46 = .ok (.goto 4, 3) := by decide +kernel
theorem dX12_all_49 : decode cX12_all 49 = .ok (.iconst 0, 1) := by decide +kernel
theorem dX12_all_50 : decode cX12_all 50 = .ok (.ireturn, 1) := by decide +kernel
theorem dX12_all_51 : decode cX12_all 51 = .ok (.iload_n 1, 1) := by decide +kernel
theorem dX12_all_52 : decode cX12_all 52 = .ok (.iconst 5, 1) := by decide +kernel
theorem dX12_all_53 : decode cX12_all 53 = .ok (.if_icmp .ne 8, 3) := by decide +kernel
theorem dX12_all_56 : decode cX12_all 56 = .ok (.aload_n 0, 1) := by decide +kernel
theorem dX12_all_57 : decode cX12_all 57 = .ok (.invokevirtual 469, 3) := by decide +kernel
theorem dX12_all_60 : decode cX12_all 60 = .ok (.ireturn, 1) := by decide +kernel
theorem dX12_all_61 : decode cX12_all 61 = .ok (.iconst 0, 1) := by decide +kernel
theorem dX12_all_62 : decode cX12_all 62 = .ok (.istore_n 2, 1) := by decide +kernel
theorem dX12_all_63 : decode cX12_all 63 = .ok (.iload_n 1, 1) := by decide +kernel
theorem dX12_all_64 : decode cX12_all 64 = .ok (.bipush 6, 2) := by decide +kernel
theorem dX12_all_66 : decode cX12_all 66 = .ok (.if_icmp .ne 38, 3) := by decide +kernel
theorem dX12_all_69 : decode cX12_all 69 = .ok (.iconst 0, 1) := by decide +kernel
theorem dX12_all_70 : decode cX12_all 70 = .ok (.istore_n 3, 1) := by decide +kernel
theorem dX12_all_71 : decode cX12_all 71 = .ok (.iload_n 3, 1) := by decide +kernel
theorem dX12_all_72 : decode cX12_all 72 = .ok (.iconst 4, 1) := by decide +kernel
theorem dX12_all_73 : decode cX12_all 73 = .ok (.if_icmp .ge 31, 3) := by decide +kernel
theorem dX12_all_76 : decode cX12_all 76 = .ok (.iload_n 2, 1) := by decide +kernel
theorem dX12_all_77 : decode cX12_all 77 = .ok (.aload_n 0, 1) := by decide +kernel
theorem dX12_all_78 : decode cX12_all 78 = .ok (.getfield 61, 3) := by decide +kernel
theorem dX12_all_81 : decode cX12_all 81 = .ok (.bipush 18, 2) := by decide +kernel
theorem dX12_all_83 : decode cX12_all 83 = .ok (.iload_n 3, 1) := by decide +kernel
theorem dX12_all_84 : decode cX12_all 84 = .ok (.iadd, 1) := by decide +kernel
theorem dX12_all_85 : decode cX12_all 85 = .ok (.iaload, 1) := by decide +kernel
theorem dX12_all_86 : decode cX12_all 86 = .ok (.ifCond .ne 9, 3) := by decide +kernel
theorem dX12_all_89 : decode cX12_all 89 = .ok (.iconst 1, 1) := by decide +kernel
theorem dX12_all_90 : decode cX12_all 90 = .ok (.iload_n 3, 1) := by decide +kernel
theorem dX12_all_91 : decode cX12_all 91 = .ok (.ishl, 1) := by decide +kernel
theorem dX12_all_92 : decode cX12_all 92 = .ok (.goto 4, 3) := by decide +kernel
theorem dX12_all_95 : decode cX12_all 95 = .ok (.iconst 0, 1) := by decide +kernel
theorem dX12_all_96 : decode cX12_all 96 = .ok (.ior, 1) := by decide +kernel
theorem dX12_all_97 : decode cX12_all 97 = .ok (.istore_n 2, 1) := by decide +kernel
theorem dX12_all_98 : decode cX12_all 98 = .ok (.iinc 3 1, 3) := by decide +kernel
theorem dX12_all_101 : decode cX12_all 101 = .ok (.goto (-30), 3) := by decide +kernel
theorem dX12_all_104 : decode cX12_all 104 = .ok (.iload_n 1, 1) := by decide +kernel
theorem dX12_all_105 : decode cX12_all 105 = .ok (.bipush 7, 2) := by decide +kernel
theorem dX12_all_107 : decode cX12_all 107 = .ok (.if_icmp .ne 47, 3) := by decide +kernel
theorem dX12_all_110 : decode cX12_all 110 = .ok (.iconst 0, 1) := by decide +kernel
theorem dX12_all_111 : decode cX12_all 111 = .ok (.istore_n 3, 1) := by decide +kernel
theorem dX12_all_112 : decode cX12_all 112 = .ok (.iload_n 3, 1) := by decide +kernel
theorem dX12_all_113 : decode cX12_all 113 = .ok (.aload_n 0, 1) := by decide +kernel
theorem dX12_all_114 : decode cX12_all 114 = .ok (.getfield 288, 3) := by decide +kernel
theorem dX12_all_117 : decode cX12_all 117 = .ok (.if_icmp .ge 37, 3) := by decide +kernel
theorem dX12_all_120 : decode cX12_all 120 = .ok (.iload_n 2, 1) := by decide +kernel
theorem dX12_all_121 : decode cX12_all 121 = .ok (.aload_n 0, 1) := by decide +kernel
theorem dX12_all_122 : decode cX12_all 122 = .ok (.aload_n 0, 1) := by decide +kernel
theorem dX12_all_123 : decode cX12_all 123 = .ok (.getfield 61, 3) := by decide +kernel
theorem dX12_all_126 : decode cX12_all 126 = .ok (.iload_n 3, 1) := by decide +kernel
theorem dX12_all_127 : decode cX12_all 127 = .ok (.aload_n 0, 1) := by decide +kernel
theorem dX12_all_128 : decode cX12_all 128 = .ok (.iload_n 3, 1) := by decide +kernel
theorem dX12_all_129 : decode cX12_all 129 = .ok (.invokevirtual 322, 3) := by decide +kernel
theorem dX12_all_132 : decode cX12_all 132 = .ok (.iconst 0, 1) := by decide +kernel
theorem dX12_all_133 : decode cX12_all 133 = .ok (.invokevirtual 359, 3) := by decide +kernel
theorem dX12_all_136 : decode cX12_all 136 = .ok (.ifCond .eq 9, 3) := by decide +kernel
theorem dX12_all_139 : decode cX12_all 139 = .ok (.iconst 1, 1) := by decide +kernel
theorem dX12_all_140 : decode cX12_all 140 = .ok (.iload_n 3, 1) := by decide +kernel
theorem dX12_all_141 : decode cX12_all 141 = .ok (.ishl, 1) := by decide +kernel
theorem dX12_all_142 : decode cX12_all 142 = .ok (.goto 4, 3) := by decide +kernel
theorem dX12_all_145 : decode cX12_all 145 = .ok (.iconst 0, 1) := by decide +kernel
theorem dX12_all_146 : decode cX12_all 146 = .ok (.ior, 1) := by decide +kernel
theorem dX12_all_147 : decode cX12_all 147 = .ok (.istore_n 2, 1) := by decide +kernel
theorem dX12_all_148 : decode cX12_all 148 = .ok (.iinc 3 1, 3) := by decide +kernel
theorem dX12_all_151 : decode cX12_all 151 = .ok (.goto (-39), 3) := by decide +kernel
theorem dX12_all_154 : decode cX12_all 154 = .ok (.iload_n 1, 1) := by decide +kernel
theorem dX12_all_155 : decode cX12_all 155 = .ok (.iconst 5, 1) := by decide +kernel
theorem dX12_all_156 : decode cX12_all 156 = .ok (.if_icmp .le 5, 3) := by decide +kernel
theorem dX12_all_159 : decode cX12_all 159 = .ok (.iload_n 2, 1) := by decide +kernel
theorem dX12_all_160 : decode cX12_all 160 = .ok (.ireturn, 1) := by decide +kernel
theorem dX12_all_161 : decode cX12_all 161 = .ok (.iconst 0, 1) := by decide +kernel
theorem dX12_all_162 : decode cX12_all 162 = .ok (.istore_n 3, 1) := by decide +kernel
theorem dX12_all_163 : decode cX12_all 163 = .ok (.iconst 1, 1) := by decide +kernel
theorem dX12_all_164 : decode cX12_all 164 = .ok (.istore 4, 2) := by decide +kernel
theorem dX12_all_166 : decode cX12_all 166 = .ok (.iload 4, 2) := by decide +kernel
theorem dX12_all_168 : decode cX12_all 168 = .ok (.aload_n 0, 1) := by decide +kernel
theorem dX12_all_169 : decode cX12_all 169 = .ok (.getfield 291, 3) := by decide +kernel
theorem dX12_all_172 : decode cX12_all 172 = .ok (.if_icmp .ge 32, 3) := by decide +kernel
theorem dX12_all_175 : decode cX12_all 175 = .ok (.aload_n 0, 1) := by decide +kernel
theorem dX12_all_176 : decode cX12_all 176 = .ok (.iload_n 1, 1) := by decide +kernel
theorem dX12_all_177 : decode cX12_all 177 = .ok (.iload 4, 2) := by decide +kernel
theorem dX12_all_179 : decode cX12_all 179 = .ok (.invokevirtual 472, 3) := by decide +kernel
theorem dX12_all_182 : decode cX12_all 182 = .ok (.aload_n 0, 1) := by decide +kernel
theorem dX12_all_183 : decode cX12_all 183 = .ok (.iload_n 1, 1) := by decide +kernel
theorem dX12_all_184 : decode cX12_all 184 = .ok (.iload_n 3, 1) := by decide +kernel
theorem dX12_all_185 : decode cX12_all 185 = .ok (.invokevirtual 472, 3) := by decide +kernel
theorem dX12_all_188 : decode cX12_all 188 = .ok (.if_icmp .le 8, 3) := by decide +kernel
theorem dX12_all_191 : decode cX12_all 191 = .ok (.iload 4, 2) := by decide +kernel
theorem dX12_all_193 : decode cX12_all 193 = .ok (.goto 4, 3) := by decide +kernel
theorem dX12_all_196 : decode cX12_all 196 = .ok (.iload_n 3, 1) := by decide +kernel
theorem dX12_all_197 : decode cX12_all 197 = .ok (.istore_n 3, 1) := by decide +kernel
theorem dX12_all_198 : decode cX12_all 198 = .ok (.iinc 4 1, 3) := by decide +kernel
theorem dX12_all_201 : decode cX12_all 201 = .ok (.goto (-35), 3) := by decide +kernel
theorem dX12_all_204 : decode cX12_all 204 = .ok (.iload_n 3, 1) := by decide +kernel
theorem dX12_all_205 : decode cX12_all 205 = .ok (.ireturn, 1) := by decide +kernel
def X12_all_96 (n : Nat) (K71 : Int32 → Int32 → Int32 → Mm → Option (Int32 × Mm)) (x1 : Int32) (x3 : Int32) (s0 : Int32) (s1 : Int32) (h : Mm) : Option (Int32 × Mm) := (K71 x1 (s0 ||| s1) (x3 + (1)) h)
set_option maxRecDepth 100000 in
set_option maxHeartbeats 4000000 in
theorem v_X12_all_96 {X : WX} {G : GX} {o : Mm} {n : Nat} {K71 : Int32 → Int32 → Int32 → Mm → Option (Int32 × Mm)} {rv : Int32} {hz : Mm} (hK71 : ∀ (x1 : Int32) (x2 : Int32) (x3 : Int32) (h : Mm), K71 x1 x2 x3 h = some (rv, hz) → V X G RX12 cX12_all 5 (some .int) 4 0 0 (QR X G false o (some (.int rv)) hz) false o 71 [(0, .ref (xa X 251)), (1, .int x1), (2, .int x2), (3, .int x3)] [] h) {x1 : Int32} {x3 : Int32} {s0 : Int32} {s1 : Int32} {h : Mm} (hF : X12_all_96 n K71 x1 x3 s0 s1 h = some (rv, hz)) : V X G RX12 cX12_all 5 (some .int) 4 0 0 (QR X G false o (some (.int rv)) hz) false o 96 [(0, .ref (xa X 251)), (1, .int x1), (3, .int x3)] [.int s1, .int s0] h := by
  unfold X12_all_96 at hF
  refine V.ior dX12_all_96 ?_
  refine V.istore_n [(2, _), (0, _), (1, _), (3, _)] dX12_all_97 rfl (by decide) rfl ?_
  refine V.iinc (v := (x3 + (1))) 3 [(3, _), (2, _), (0, _), (1, _)] dX12_all_98 rfl rfl (by decide) rfl ?_
  refine V.goto (tgt := 71) dX12_all_101 rfl ?_
  exact V.sub [2, 3, 1, 0] rfl (hK71 _ _ _ _ hF)
def X12_all_146 (n : Nat) (K112 : Int32 → Int32 → Int32 → Mm → Option (Int32 × Mm)) (x1 : Int32) (x3 : Int32) (s0 : Int32) (s1 : Int32) (h : Mm) : Option (Int32 × Mm) := (K112 x1 (s0 ||| s1) (x3 + (1)) h)
set_option maxRecDepth 100000 in
set_option maxHeartbeats 4000000 in
theorem v_X12_all_146 {X : WX} {G : GX} {o : Mm} {n : Nat} {K112 : Int32 → Int32 → Int32 → Mm → Option (Int32 × Mm)} {rv : Int32} {hz : Mm} (hK112 : ∀ (x1 : Int32) (x2 : Int32) (x3 : Int32) (h : Mm), K112 x1 x2 x3 h = some (rv, hz) → V X G RX12 cX12_all 5 (some .int) 4 0 0 (QR X G false o (some (.int rv)) hz) false o 112 [(0, .ref (xa X 251)), (1, .int x1), (2, .int x2), (3, .int x3)] [] h) {x1 : Int32} {x3 : Int32} {s0 : Int32} {s1 : Int32} {h : Mm} (hF : X12_all_146 n K112 x1 x3 s0 s1 h = some (rv, hz)) : V X G RX12 cX12_all 5 (some .int) 4 0 0 (QR X G false o (some (.int rv)) hz) false o 146 [(0, .ref (xa X 251)), (1, .int x1), (3, .int x3)] [.int s1, .int s0] h := by
  unfold X12_all_146 at hF
  refine V.ior dX12_all_146 ?_
  refine V.istore_n [(2, _), (0, _), (1, _), (3, _)] dX12_all_147 rfl (by decide) rfl ?_
  refine V.iinc (v := (x3 + (1))) 3 [(3, _), (2, _), (0, _), (1, _)] dX12_all_148 rfl rfl (by decide) rfl ?_
  refine V.goto (tgt := 112) dX12_all_151 rfl ?_
  exact V.sub [2, 3, 1, 0] rfl (hK112 _ _ _ _ hF)
def X12_all_197 (n : Nat) (K166 : Int32 → Int32 → Int32 → Mm → Option (Int32 × Mm)) (x1 : Int32) (x4 : Int32) (s0 : Int32) (h : Mm) : Option (Int32 × Mm) := (K166 x1 s0 (x4 + (1)) h)
set_option maxRecDepth 100000 in
set_option maxHeartbeats 4000000 in
theorem v_X12_all_197 {X : WX} {G : GX} {o : Mm} {n : Nat} {K166 : Int32 → Int32 → Int32 → Mm → Option (Int32 × Mm)} {rv : Int32} {hz : Mm} (hK166 : ∀ (x1 : Int32) (x3 : Int32) (x4 : Int32) (h : Mm), K166 x1 x3 x4 h = some (rv, hz) → V X G RX12 cX12_all 5 (some .int) 4 0 0 (QR X G false o (some (.int rv)) hz) false o 166 [(0, .ref (xa X 251)), (1, .int x1), (3, .int x3), (4, .int x4)] [] h) {x1 : Int32} {x4 : Int32} {s0 : Int32} {h : Mm} (hF : X12_all_197 n K166 x1 x4 s0 h = some (rv, hz)) : V X G RX12 cX12_all 5 (some .int) 4 0 0 (QR X G false o (some (.int rv)) hz) false o 197 [(0, .ref (xa X 251)), (1, .int x1), (4, .int x4)] [.int s0] h := by
  unfold X12_all_197 at hF
  refine V.istore_n [(3, _), (0, _), (1, _), (4, _)] dX12_all_197 rfl (by decide) rfl ?_
  refine V.iinc (v := (x4 + (1))) 3 [(4, _), (3, _), (0, _), (1, _)] dX12_all_198 rfl rfl (by decide) rfl ?_
  refine V.goto (tgt := 166) dX12_all_201 rfl ?_
  exact V.sub [2, 3, 1, 0] rfl (hK166 _ _ _ _ hF)
def X12_all_166 (n : Nat) : Nat → Int32 → Int32 → Int32 → Mm → Option (Int32 × Mm)
  | 0, _, _, _, _ => none
  | f + 1, x1, x3, x4, h => (if (h.1 251 27) ≤ x4 then (some (x3, h)) else (bp (X12_valueOf x1 x4 h) (fun r73 => (bp (X12_valueOf x1 x3 h) (fun r75 => (if r73 ≤ r75 then (X12_all_197 n (X12_all_166 n f) x1 x4 x3 h) else (X12_all_197 n (X12_all_166 n f) x1 x4 x4 h)))))))
set_option maxRecDepth 100000 in
set_option maxHeartbeats 4000000 in
theorem v_X12_all_166 {X : WX} {G : GX} {o : Mm} {n : Nat} {rv : Int32} {hz : Mm} : ∀ (f : Nat) (x1 : Int32) (x3 : Int32) (x4 : Int32) (h : Mm), X12_all_166 n f x1 x3 x4 h = some (rv, hz) → V X G RX12 cX12_all 5 (some .int) 4 0 0 (QR X G false o (some (.int rv)) hz) false o 166 [(0, .ref (xa X 251)), (1, .int x1), (3, .int x3), (4, .int x4)] [] h := by
  intro f
  induction f with
  | zero => intro x1 x3 x4 h hF; exact nomatch (show (none : Option (Int32 × Mm)) = some (rv, hz) from hF)
  | succ f ih =>
    intro x1 x3 x4 h hF
    unfold X12_all_166 at hF
    refine V.iload 3 dX12_all_166 rfl ?_
    refine V.aload_n 0 dX12_all_168 rfl rfl ?_
    refine V.getI fl_X12_291 sh_251 rfl km_251 dX12_all_169 ?_
    refine V.icmp_ge (tgt := 204) dX12_all_172 rfl (fun c => ?_) (fun c => ?_)
    · replace hF := ip c hF
      refine V.iload_n 2 dX12_all_204 rfl rfl ?_
      cases hF
      exact V.iret dX12_all_205
    · replace hF := iq c hF
      refine V.aload_n 0 dX12_all_175 rfl rfl ?_
      refine V.iload_n 1 dX12_all_176 rfl rfl ?_
      refine V.iload 3 dX12_all_177 rfl ?_
      obtain ⟨r73, hc74, hF⟩ := bp_s hF
      refine V.callVi mf_X12_valueOf ml_X12_472 sh_251 (s_X12_valueOf hc74) (by decide) rfl rfl (Nat.le_of_ble_eq_true rfl) dX12_all_179 ?_
      refine V.aload_n 0 dX12_all_182 rfl rfl ?_
      refine V.iload_n 1 dX12_all_183 rfl rfl ?_
      refine V.iload_n 2 dX12_all_184 rfl rfl ?_
      obtain ⟨r75, hc76, hF⟩ := bp_s hF
      refine V.callVi mf_X12_valueOf ml_X12_472 sh_251 (s_X12_valueOf hc76) (by decide) rfl rfl (Nat.le_of_ble_eq_true rfl) dX12_all_185 ?_
      refine V.icmp_le (tgt := 196) dX12_all_188 rfl (fun c => ?_) (fun c => ?_)
      · replace hF := ip c hF
        refine V.iload_n 2 dX12_all_196 rfl rfl ?_
        exact V.sub [0, 1, 3] rfl (v_X12_all_197 ih hF)
      · replace hF := iq c hF
        refine V.iload 3 dX12_all_191 rfl ?_
        refine V.goto (tgt := 197) dX12_all_193 rfl ?_
        exact V.sub [0, 1, 3] rfl (v_X12_all_197 ih hF)
def X12_all_154 (n : Nat) (x1 : Int32) (x2 : Int32) (h : Mm) : Option (Int32 × Mm) := (if x1 ≤ (5 : Int32) then (X12_all_166 n n x1 (0 : Int32) (1 : Int32) h) else (some (x2, h)))
set_option maxRecDepth 100000 in
set_option maxHeartbeats 4000000 in
theorem v_X12_all_154 {X : WX} {G : GX} {o : Mm} {n : Nat} {rv : Int32} {hz : Mm} {x1 : Int32} {x2 : Int32} {h : Mm} (hF : X12_all_154 n x1 x2 h = some (rv, hz)) : V X G RX12 cX12_all 5 (some .int) 4 0 0 (QR X G false o (some (.int rv)) hz) false o 154 [(0, .ref (xa X 251)), (1, .int x1), (2, .int x2)] [] h := by
  unfold X12_all_154 at hF
  refine V.iload_n 1 dX12_all_154 rfl rfl ?_
  refine V.iconst (v := 5) dX12_all_155 rfl ?_
  refine V.icmp_le (tgt := 161) dX12_all_156 rfl (fun c => ?_) (fun c => ?_)
  · replace hF := ip c hF
    refine V.iconst (v := 0) dX12_all_161 rfl ?_
    refine V.istore_n [(3, _), (0, _), (1, _), (2, _)] dX12_all_162 rfl (by decide) rfl ?_
    refine V.iconst (v := 1) dX12_all_163 rfl ?_
    refine V.istore [(4, _), (3, _), (0, _), (1, _), (2, _)] dX12_all_164 (by decide) rfl ?_
    exact V.sub [2, 3, 1, 0] rfl (v_X12_all_166 n _ _ _ _ hF)
  · replace hF := iq c hF
    refine V.iload_n 2 dX12_all_159 rfl rfl ?_
    cases hF
    exact V.iret dX12_all_160
def X12_all_112 (n : Nat) : Nat → Int32 → Int32 → Int32 → Mm → Option (Int32 × Mm)
  | 0, _, _, _, _ => none
  | f + 1, x1, x2, x3, h => (if (h.1 251 26) ≤ x3 then (X12_all_154 n x1 x2 h) else (bp (X12_pagesOf x3 h) (fun r77 => (bp (X12_mayRead 264 x3 r77 false h) (fun r79 => (if r79 = true then (X12_all_146 n (X12_all_112 n f) x1 x3 x2 ((1 : Int32) <<< (x3 &&& 31)) h) else (X12_all_146 n (X12_all_112 n f) x1 x3 x2 (0 : Int32) h)))))))
set_option maxRecDepth 100000 in
set_option maxHeartbeats 4000000 in
theorem v_X12_all_112 {X : WX} {G : GX} {o : Mm} {n : Nat} {rv : Int32} {hz : Mm} : ∀ (f : Nat) (x1 : Int32) (x2 : Int32) (x3 : Int32) (h : Mm), X12_all_112 n f x1 x2 x3 h = some (rv, hz) → V X G RX12 cX12_all 5 (some .int) 4 0 0 (QR X G false o (some (.int rv)) hz) false o 112 [(0, .ref (xa X 251)), (1, .int x1), (2, .int x2), (3, .int x3)] [] h := by
  intro f
  induction f with
  | zero => intro x1 x2 x3 h hF; exact nomatch (show (none : Option (Int32 × Mm)) = some (rv, hz) from hF)
  | succ f ih =>
    intro x1 x2 x3 h hF
    unfold X12_all_112 at hF
    refine V.iload_n 3 dX12_all_112 rfl rfl ?_
    refine V.aload_n 0 dX12_all_113 rfl rfl ?_
    refine V.getI fl_X12_288 sh_251 rfl km_251 dX12_all_114 ?_
    refine V.icmp_ge (tgt := 154) dX12_all_117 rfl (fun c => ?_) (fun c => ?_)
    · replace hF := ip c hF
      exact V.sub [0, 1, 2] rfl (v_X12_all_154 hF)
    · replace hF := iq c hF
      refine V.iload_n 2 dX12_all_120 rfl rfl ?_
      refine V.aload_n 0 dX12_all_121 rfl rfl ?_
      refine V.aload_n 0 dX12_all_122 rfl rfl ?_
      refine V.getR (v := 264) fl_X12_61 sh_251 rfl fx_251_32 (by decide) dX12_all_123 ?_
      refine V.iload_n 3 dX12_all_126 rfl rfl ?_
      refine V.aload_n 0 dX12_all_127 rfl rfl ?_
      refine V.iload_n 3 dX12_all_128 rfl rfl ?_
      obtain ⟨r77, hc78, hF⟩ := bp_s hF
      refine V.callVi mf_X12_pagesOf ml_X12_322 sh_251 (s_X12_pagesOf hc78) (by decide) rfl rfl (Nat.le_of_ble_eq_true rfl) dX12_all_129 ?_
      refine V.iconst (v := 0) dX12_all_132 rfl ?_
      obtain ⟨r79, hc80, hF⟩ := bp_s hF
      refine V.callVi mf_X12_mayRead ml_X12_359 sh_251 (s_X12_mayRead io_264 hc80) (by decide) rfl rfl (Nat.le_of_ble_eq_true rfl) dX12_all_133 ?_
      refine V.ifz_eq (tgt := 145) dX12_all_136 rfl (fun c => ?_) (fun c => ?_)
      · replace hF := iq c hF
        refine V.iconst (v := 0) dX12_all_145 rfl ?_
        exact V.sub [0, 1, 3] rfl (v_X12_all_146 ih hF)
      · replace hF := ip c hF
        refine V.iconst (v := 1) dX12_all_139 rfl ?_
        refine V.iload_n 3 dX12_all_140 rfl rfl ?_
        refine V.ishl dX12_all_141 ?_
        refine V.goto (tgt := 146) dX12_all_142 rfl ?_
        exact V.sub [0, 1, 3] rfl (v_X12_all_146 ih hF)
def X12_all_104 (n : Nat) (x1 : Int32) (x2 : Int32) (h : Mm) : Option (Int32 × Mm) := (if x1 = (7 : Int32) then (X12_all_112 n n x1 x2 (0 : Int32) h) else (X12_all_154 n x1 x2 h))
set_option maxRecDepth 100000 in
set_option maxHeartbeats 4000000 in
theorem v_X12_all_104 {X : WX} {G : GX} {o : Mm} {n : Nat} {rv : Int32} {hz : Mm} {x1 : Int32} {x2 : Int32} {h : Mm} (hF : X12_all_104 n x1 x2 h = some (rv, hz)) : V X G RX12 cX12_all 5 (some .int) 4 0 0 (QR X G false o (some (.int rv)) hz) false o 104 [(0, .ref (xa X 251)), (1, .int x1), (2, .int x2)] [] h := by
  unfold X12_all_104 at hF
  refine V.iload_n 1 dX12_all_104 rfl rfl ?_
  refine V.bipush (v := 7) dX12_all_105 (by decide) ?_
  refine V.icmp_ne (tgt := 154) dX12_all_107 rfl (fun c => ?_) (fun c => ?_)
  · replace hF := iq c hF
    exact (v_X12_all_154 hF)
  · replace hF := ip c hF
    refine V.iconst (v := 0) dX12_all_110 rfl ?_
    refine V.istore_n [(3, _), (0, _), (1, _), (2, _)] dX12_all_111 rfl (by decide) rfl ?_
    exact V.sub [1, 2, 3, 0] rfl (v_X12_all_112 n _ _ _ _ hF)
def X12_all_71 (n : Nat) : Nat → Int32 → Int32 → Int32 → Mm → Option (Int32 × Mm)
  | 0, _, _, _, _ => none
  | f + 1, x1, x2, x3, h => (if (4 : Int32) ≤ x3 then (X12_all_104 n x1 x2 h) else (if inB ((18 : Int32) + x3) (aln 264) then (if (h.1 264 ((18 : Int32) + x3).toNatClampNeg) = 0 then (X12_all_96 n (X12_all_71 n f) x1 x3 x2 ((1 : Int32) <<< (x3 &&& 31)) h) else (X12_all_96 n (X12_all_71 n f) x1 x3 x2 (0 : Int32) h)) else none))
set_option maxRecDepth 100000 in
set_option maxHeartbeats 4000000 in
theorem v_X12_all_71 {X : WX} {G : GX} {o : Mm} {n : Nat} {rv : Int32} {hz : Mm} : ∀ (f : Nat) (x1 : Int32) (x2 : Int32) (x3 : Int32) (h : Mm), X12_all_71 n f x1 x2 x3 h = some (rv, hz) → V X G RX12 cX12_all 5 (some .int) 4 0 0 (QR X G false o (some (.int rv)) hz) false o 71 [(0, .ref (xa X 251)), (1, .int x1), (2, .int x2), (3, .int x3)] [] h := by
  intro f
  induction f with
  | zero => intro x1 x2 x3 h hF; exact nomatch (show (none : Option (Int32 × Mm)) = some (rv, hz) from hF)
  | succ f ih =>
    intro x1 x2 x3 h hF
    unfold X12_all_71 at hF
    refine V.iload_n 3 dX12_all_71 rfl rfl ?_
    refine V.iconst (v := 4) dX12_all_72 rfl ?_
    refine V.icmp_ge (tgt := 104) dX12_all_73 rfl (fun c => ?_) (fun c => ?_)
    · replace hF := ip c hF
      exact V.sub [0, 1, 2] rfl (v_X12_all_104 hF)
    · replace hF := iq c hF
      refine V.iload_n 2 dX12_all_76 rfl rfl ?_
      refine V.aload_n 0 dX12_all_77 rfl rfl ?_
      refine V.getR (v := 264) fl_X12_61 sh_251 rfl fx_251_32 (by decide) dX12_all_78 ?_
      refine V.bipush (v := 18) dX12_all_81 (by decide) ?_
      refine V.iload_n 3 dX12_all_83 rfl rfl ?_
      refine V.iadd dX12_all_84 ?_
      obtain ⟨hk, hF⟩ := ck hF
      refine V.iald io_264 hk dX12_all_85 ?_
      refine V.if_ne (tgt := 95) dX12_all_86 rfl (fun c => ?_) (fun c => ?_)
      · replace hF := iq c hF
        refine V.iconst (v := 0) dX12_all_95 rfl ?_
        exact V.sub [0, 1, 3] rfl (v_X12_all_96 ih hF)
      · replace hF := ip c hF
        refine V.iconst (v := 1) dX12_all_89 rfl ?_
        refine V.iload_n 3 dX12_all_90 rfl rfl ?_
        refine V.ishl dX12_all_91 ?_
        refine V.goto (tgt := 96) dX12_all_92 rfl ?_
        exact V.sub [0, 1, 3] rfl (v_X12_all_96 ih hF)
def X12_all (n : Nat) (x1 : Int32) (h : Mm) : Option (Int32 × Mm) := (if ((wI h 251 0 (0 : Int32)).1 251 27) = 0 then (some ((-1 : Int32), (wI h 251 0 (0 : Int32)))) else (bp (X12_isIn x1.toInt64 (0 : Int64) (7 : Int64) (wI h 251 0 (0 : Int32))) (fun r81 => (if r81 = true then (if x1 = (1 : Int32) then (if inB (22 : Int32) (aln 264) then (bp (X12_isEnough ((wI h 251 0 (0 : Int32)).1 264 (22 : Int32).toNatClampNeg) (wI h 251 0 (0 : Int32))) (fun r85 => (if r85 = true then (some ((1 : Int32), (wI h 251 0 (0 : Int32)))) else (some ((0 : Int32), (wI h 251 0 (0 : Int32))))))) else none) else (if x1 = (5 : Int32) then (bp (X12_longest n (wI h 251 0 (0 : Int32))) (fun r83 => (some (r83, (wI h 251 0 (0 : Int32)))))) else (if x1 = (6 : Int32) then (X12_all_71 n n x1 (0 : Int32) (0 : Int32) (wI h 251 0 (0 : Int32))) else (X12_all_104 n x1 (0 : Int32) (wI h 251 0 (0 : Int32)))))) else (some ((-1 : Int32), (wI h 251 0 (0 : Int32))))))))
set_option maxRecDepth 100000 in
set_option maxHeartbeats 4000000 in
theorem s_X12_all {X : WX} {o : Mm} {n : Nat} {x1 : Int32} {rv : Int32} {hz : Mm} {h : Mm} (hF : X12_all n x1 h = some (rv, hz)) : Sat X yX12_all cX12_all 5 (some .int) 4 [.ref (xa X 251), .int x1] false o h (some (.int rv)) hz := by
  unfold X12_all at hF
  refine Sat.mk (own := RX12) rfl (by decide +kernel) (Nat.le_of_ble_eq_true rfl) (fun G => ?_)
  refine V.sub (lv2 := [(0, _), (1, _)]) [0, 1] rfl ?_
  refine V.aload_n 0 dX12_all_0 rfl rfl ?_
  refine V.iconst (v := 0) dX12_all_1 rfl ?_
  refine V.putI fl_X12_93 rfl (tyX12_ok 0 (by decide)) rfl rfl sh_251 rfl km_251 dX12_all_2 ?_
  refine V.aload_n 0 dX12_all_5 rfl rfl ?_
  refine V.getI fl_X12_291 sh_251 rfl km_251 dX12_all_6 ?_
  refine V.if_eq (tgt := 24) dX12_all_9 rfl (fun c => ?_) (fun c => ?_)
  · replace hF := ip c hF
    refine V.iconst (v := -1) dX12_all_24 rfl ?_
    cases hF
    exact V.iret dX12_all_25
  · replace hF := iq c hF
    refine V.iload_n 1 dX12_all_12 rfl rfl ?_
    refine V.i2l dX12_all_13 ?_
    refine V.lconst (v := 0) dX12_all_14 rfl ?_
    refine V.ldc2 (v := 7) dX12_all_15 kc_X12_467 ?_
    obtain ⟨r81, hc82, hF⟩ := bp_s hF
    refine V.callSi mf_X12_isIn ml_X12_214 (s_X12_isIn hc82) (by decide) rfl rfl (Nat.le_of_ble_eq_true rfl) dX12_all_18 ?_
    refine V.ifz_ne (tgt := 26) dX12_all_21 rfl (fun c => ?_) (fun c => ?_)
    · replace hF := ip c hF
      refine V.iload_n 1 dX12_all_26 rfl rfl ?_
      refine V.iconst (v := 1) dX12_all_27 rfl ?_
      refine V.icmp_ne (tgt := 51) dX12_all_28 rfl (fun c => ?_) (fun c => ?_)
      · replace hF := iq c hF
        refine V.iload_n 1 dX12_all_51 rfl rfl ?_
        refine V.iconst (v := 5) dX12_all_52 rfl ?_
        refine V.icmp_ne (tgt := 61) dX12_all_53 rfl (fun c => ?_) (fun c => ?_)
        · replace hF := iq c hF
          refine V.iconst (v := 0) dX12_all_61 rfl ?_
          refine V.istore_n [(2, _), (0, _), (1, _)] dX12_all_62 rfl (by decide) rfl ?_
          refine V.iload_n 2 dX12_all_63 rfl rfl ?_
          refine V.bipush (v := 6) dX12_all_64 (by decide) ?_
          refine V.icmp_ne (tgt := 104) dX12_all_66 rfl (fun c => ?_) (fun c => ?_)
          · replace hF := iq c hF
            exact V.sub [1, 2, 0] rfl (v_X12_all_104 hF)
          · replace hF := ip c hF
            refine V.iconst (v := 0) dX12_all_69 rfl ?_
            refine V.istore_n [(3, _), (2, _), (0, _), (1, _)] dX12_all_70 rfl (by decide) rfl ?_
            exact V.sub [2, 3, 1, 0] rfl (v_X12_all_71 n _ _ _ _ hF)
        · replace hF := ip c hF
          refine V.aload_n 0 dX12_all_56 rfl rfl ?_
          obtain ⟨r83, hc84, hF⟩ := bp_s hF
          refine V.callVi mf_X12_longest ml_X12_469 sh_251 (s_X12_longest hc84) (by decide) rfl rfl (Nat.le_of_ble_eq_true rfl) dX12_all_57 ?_
          cases hF
          exact V.iret dX12_all_60
      · replace hF := ip c hF
        refine V.aload_n 0 dX12_all_31 rfl rfl ?_
        refine V.aload_n 0 dX12_all_32 rfl rfl ?_
        refine V.getR (v := 264) fl_X12_61 sh_251 rfl fx_251_32 (by decide) dX12_all_33 ?_
        refine V.bipush (v := 22) dX12_all_36 (by decide) ?_
        obtain ⟨hk, hF⟩ := ck hF
        refine V.iald io_264 hk dX12_all_38 ?_
        obtain ⟨r85, hc86, hF⟩ := bp_s hF
        refine V.callVi mf_X12_isEnough ml_X12_340 sh_251 (s_X12_isEnough hc86) (by decide) rfl rfl (Nat.le_of_ble_eq_true rfl) dX12_all_39 ?_
        refine V.ifz_eq (tgt := 49) dX12_all_42 rfl (fun c => ?_) (fun c => ?_)
        · replace hF := iq c hF
          refine V.iconst (v := 0) dX12_all_49 rfl ?_
          cases hF
          exact V.iret dX12_all_50
        · replace hF := ip c hF
          refine V.iconst (v := 1) dX12_all_45 rfl ?_
          refine V.goto (tgt := 50) dX12_all_46 rfl ?_
          cases hF
          exact V.iret dX12_all_50
    · replace hF := iq c hF
      refine V.iconst (v := -1) dX12_all_24 rfl ?_
      cases hF
      exact V.iret dX12_all_25
