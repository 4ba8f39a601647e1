/-! MonsterCotModel.pages -/
theorem dX12_pages_0 : decode cX12_pages 0 = .ok (.aload_n 0, 1) := by decide +kernel
theorem dX12_pages_1 : decode cX12_pages 1 = .ok (.iconst 0, 1) := by decide +kernel
theorem dX12_pages_2 : decode cX12_pages 2 = .ok (.putfield 93, 3) := by decide +kernel
theorem dX12_pages_5 : decode cX12_pages 5 = .ok (.aload_n 0, 1) := by decide +kernel
theorem dX12_pages_6 : decode cX12_pages 6 = .ok (.getfield 291, 3) := by decide +kernel
theorem dX12_pages_9 : decode cX12_pages 9 = .ok (.ifCond .eq 15, 3) := by decide +kernel
theorem dX12_pages_12 : decode cX12_pages 12 = .ok (.iload_n 1, 1) := by decide +kernel
theorem dX12_pages_13 : decode cX12_pages 13 = .ok (.i2l, 1) := by decide +kernel
theorem dX12_pages_14 : decode cX12_pages 14 = .ok (.lconst 0, 1) := by decide +kernel
theorem dX12_pages_15 : decode cX12_pages 15 = .ok (.ldc2_w 346, 3) := by decide +kernel
theorem dX12_pages_18 : decode cX12_pages 18 = .ok (.invokestatic 214, 3) := by decide +kernel
theorem dX12_pages_21 : decode cX12_pages 21 = .ok (.ifCond .ne 5, 3) := by decide +kernel
theorem dX12_pages_24 : decode cX12_pages 24 = .ok (.iconst (-1), 1) := by decide +kernel
theorem dX12_pages_25 : decode cX12_pages 25 = .ok (.ireturn, 1) := by decide +kernel
theorem dX12_pages_26 : decode cX12_pages 26 = .ok (.iconst 0, 1) := by decide +kernel
theorem dX12_pages_27 : decode cX12_pages 27 = .ok (.istore_n 2, 1) := by decide +kernel
theorem dX12_pages_28 : decode cX12_pages 28 = .ok (.iconst 0, 1) := by decide +kernel
theorem dX12_pages_29 : decode cX12_pages 29 = .ok (.istore_n 3, 1) := by decide +kernel
theorem dX12_pages_30 : decode cX12_pages 30 = .ok (.iload_n 3, 1) := by decide +kernel
theorem dX12_pages_31 : decode cX12_pages 31 = .ok (.aload_n 0, 1) := by decide +kernel
theorem dX12_pages_32 : decode cX12_pages 32 = .ok (.getfield 288, 3) := by decide +kernel
theorem dX12_pages_35 : decode cX12_pages 35 = .ok (.if_icmp .ge 30, 3) := by decide +kernel
theorem dX12_pages_38 : decode cX12_pages 38 = .ok (.iload_n 2, 1) := by decide +kernel
theorem dX12_pages_39 : decode cX12_pages 39 = .ok (.aload_n 0, 1) := by decide +kernel
theorem dX12_pages_40 : decode cX12_pages 40 = .ok (.iload_n 3, 1) := by decide +kernel
theorem dX12_pages_41 : decode cX12_pages 41 = .ok (.invokevirtual 328, 3) := by decide +kernel
theorem dX12_pages_44 : decode cX12_pages 44 = .ok (.iload_n 1, 1) := by decide +kernel
theorem dX12_pages_45 : decode cX12_pages 45 = .ok (.if_icmp .ne 11, 3) := by decide +kernel
theorem dX12_pages_48 : decode cX12_pages 48 = .ok (.aload_n 0, 1) := by decide +kernel
theorem dX12_pages_49 : decode cX12_pages 49 = .ok (.iload_n 3, 1) := by decide +kernel
theorem dX12_pages_50 : decode cX12_pages 50 = .ok (.invokevirtual 322, 3) := by decide +kernel
theorem dX12_pages_53 : decode cX12_pages 53 = .ok (.goto 4, 3) := by decide +kernel
theorem dX12_pages_56 : decode cX12_pages 56 = .ok (.iconst 0, 1) := by decide +kernel
theorem dX12_pages_57 : decode cX12_pages 57 = .ok (.iadd, 1) := by decide +kernel
theorem dX12_pages_58 : decode cX12_pages 58 = .ok (.istore_n 2, 1) := by decide +kernel
theorem dX12_pages_59 : decode cX12_pages 59 = .ok (.iinc 3 1, 3) := by decide +kernel
theorem dX12_pages_62 : decode cX12_pages 62 = .ok (.goto (-32), 3) := by decide +kernel
theorem dX12_pages_65 : decode cX12_pages 65 = .ok (.iload_n 2, 1) := by decide +kernel
theorem dX12_pages_66 : decode cX12_pages 66 = .ok (.ireturn, 1) := by decide +kernel
def X12_pages_57 (n : Nat) (K30 : Int32 → Int32 → Int32 → Mm → Option (Int32 × Mm)) (x1 : Int32) (x3 : Int32) (s0 : Int32) (s1 : Int32) (h : Mm) : Option (Int32 × Mm) := (K30 x1 (s0 + s1) (x3 + (1)) h)
set_option maxRecDepth 100000 in
set_option maxHeartbeats 4000000 in
theorem v_X12_pages_57 {X : WX} {G : GX} {o : Mm} {n : Nat} {K30 : Int32 → Int32 → Int32 → Mm → Option (Int32 × Mm)} {rv : Int32} {hz : Mm} (hK30 : ∀ (x1 : Int32) (x2 : Int32) (x3 : Int32) (h : Mm), K30 x1 x2 x3 h = some (rv, hz) → V X G RX12 cX12_pages 4 (some .int) 2 0 0 (QR X G false o (some (.int rv)) hz) false o 30 [(0, .ref (xa X 251)), (1, .int x1), (2, .int x2), (3, .int x3)] [] h) {x1 : Int32} {x3 : Int32} {s0 : Int32} {s1 : Int32} {h : Mm} (hF : X12_pages_57 n K30 x1 x3 s0 s1 h = some (rv, hz)) : V X G RX12 cX12_pages 4 (some .int) 2 0 0 (QR X G false o (some (.int rv)) hz) false o 57 [(0, .ref (xa X 251)), (1, .int x1), (3, .int x3)] [.int s1, .int s0] h := by
  unfold X12_pages_57 at hF
  refine V.iadd dX12_pages_57 ?_
  refine V.istore_n [(2, _), (0, _), (1, _), (3, _)] dX12_pages_58 rfl (by decide) rfl ?_
  refine V.iinc (v := (x3 + (1))) 3 [(3, _), (2, _), (0, _), (1, _)] dX12_pages_59 rfl rfl (by decide) rfl ?_
  refine V.goto (tgt := 30) dX12_pages_62 rfl ?_
  exact V.sub [2, 3, 1, 0] rfl (hK30 _ _ _ _ hF)
def X12_pages_30 (n : Nat) : Nat → Int32 → Int32 → Int32 → Mm → Option (Int32 × Mm)
  | 0, _, _, _, _ => none
  | f + 1, x1, x2, x3, h => (if (h.1 251 26) ≤ x3 then (some (x2, h)) else (bp (X12_kindOf x3 h) (fun r25 => (if r25 = x1 then (bp (X12_pagesOf x3 h) (fun r27 => (X12_pages_57 n (X12_pages_30 n f) x1 x3 x2 r27 h))) else (X12_pages_57 n (X12_pages_30 n f) x1 x3 x2 (0 : Int32) h)))))
set_option maxRecDepth 100000 in
set_option maxHeartbeats 4000000 in
theorem v_X12_pages_30 {X : WX} {G : GX} {o : Mm} {n : Nat} {rv : Int32} {hz : Mm} : ∀ (f : Nat) (x1 : Int32) (x2 : Int32) (x3 : Int32) (h : Mm), X12_pages_30 n f x1 x2 x3 h = some (rv, hz) → V X G RX12 cX12_pages 4 (some .int) 2 0 0 (QR X G false o (some (.int rv)) hz) false o 30 [(0, .ref (xa X 251)), (1, .int x1), (2, .int x2), (3, .int x3)] [] h := by
  intro f
  induction f with
  | zero => intro x1 x2 x3 h hF; exact nomatch (show (none : Option (Int32 × Mm)) = some (rv, hz) from hF)
  | succ f ih =>
    intro x1 x2 x3 h hF
    unfold X12_pages_30 at hF
    refine V.iload_n 3 dX12_pages_30 rfl rfl ?_
    refine V.aload_n 0 dX12_pages_31 rfl rfl ?_
    refine V.getI fl_X12_288 sh_251 rfl km_251 dX12_pages_32 ?_
    refine V.icmp_ge (tgt := 65) dX12_pages_35 rfl (fun c => ?_) (fun c => ?_)
    · replace hF := ip c hF
      refine V.iload_n 2 dX12_pages_65 rfl rfl ?_
      cases hF
      exact V.iret dX12_pages_66
    · replace hF := iq c hF
      refine V.iload_n 2 dX12_pages_38 rfl rfl ?_
      refine V.aload_n 0 dX12_pages_39 rfl rfl ?_
      refine V.iload_n 3 dX12_pages_40 rfl rfl ?_
      obtain ⟨r25, hc26, hF⟩ := bp_s hF
      refine V.callVi mf_X12_kindOf ml_X12_328 sh_251 (s_X12_kindOf hc26) (by decide) rfl rfl (Nat.le_of_ble_eq_true rfl) dX12_pages_41 ?_
      refine V.iload_n 1 dX12_pages_44 rfl rfl ?_
      refine V.icmp_ne (tgt := 56) dX12_pages_45 rfl (fun c => ?_) (fun c => ?_)
      · replace hF := iq c hF
        refine V.iconst (v := 0) dX12_pages_56 rfl ?_
        exact V.sub [0, 1, 3] rfl (v_X12_pages_57 ih hF)
      · replace hF := ip c hF
        refine V.aload_n 0 dX12_pages_48 rfl rfl ?_
        refine V.iload_n 3 dX12_pages_49 rfl rfl ?_
        obtain ⟨r27, hc28, hF⟩ := bp_s hF
        refine V.callVi mf_X12_pagesOf ml_X12_322 sh_251 (s_X12_pagesOf hc28) (by decide) rfl rfl (Nat.le_of_ble_eq_true rfl) dX12_pages_50 ?_
        refine V.goto (tgt := 57) dX12_pages_53 rfl ?_
        exact V.sub [0, 1, 3] rfl (v_X12_pages_57 ih hF)
def X12_pages (n : Nat) (x1 : Int32) (h : Mm) : Option (Int32 × Mm) := (if ((wI h 251 0 (0 : Int32)).1 251 27) = 0 then (some ((-1 : Int32), (wI h 251 0 (0 : Int32)))) else (bp (X12_isIn x1.toInt64 (0 : Int64) (3 : Int64) (wI h 251 0 (0 : Int32))) (fun r29 => (if r29 = true then (X12_pages_30 n n x1 (0 : Int32) (0 : Int32) (wI h 251 0 (0 : Int32))) else (some ((-1 : Int32), (wI h 251 0 (0 : Int32))))))))
set_option maxRecDepth 100000 in
set_option maxHeartbeats 4000000 in
theorem s_X12_pages {X : WX} {o : Mm} {n : Nat} {x1 : Int32} {rv : Int32} {hz : Mm} {h : Mm} (hF : X12_pages n x1 h = some (rv, hz)) : Sat X yX12_pages cX12_pages 4 (some .int) 2 [.ref (xa X 251), .int x1] false o h (some (.int rv)) hz := by
  unfold X12_pages at hF
  refine Sat.mk (own := RX12) rfl (by decide +kernel) (Nat.le_of_ble_eq_true rfl) (fun G => ?_)
  refine V.sub (lv2 := [(0, _), (1, _)]) [0, 1] rfl ?_
  refine V.aload_n 0 dX12_pages_0 rfl rfl ?_
  refine V.iconst (v := 0) dX12_pages_1 rfl ?_
  refine V.putI fl_X12_93 rfl (tyX12_ok 0 (by decide)) rfl rfl sh_251 rfl km_251 dX12_pages_2 ?_
  refine V.aload_n 0 dX12_pages_5 rfl rfl ?_
  refine V.getI fl_X12_291 sh_251 rfl km_251 dX12_pages_6 ?_
  refine V.if_eq (tgt := 24) dX12_pages_9 rfl (fun c => ?_) (fun c => ?_)
  · replace hF := ip c hF
    refine V.iconst (v := -1) dX12_pages_24 rfl ?_
    cases hF
    exact V.iret dX12_pages_25
  · replace hF := iq c hF
    refine V.iload_n 1 dX12_pages_12 rfl rfl ?_
    refine V.i2l dX12_pages_13 ?_
    refine V.lconst (v := 0) dX12_pages_14 rfl ?_
    refine V.ldc2 (v := 3) dX12_pages_15 kc_X12_346 ?_
    obtain ⟨r29, hc30, hF⟩ := bp_s hF
    refine V.callSi mf_X12_isIn ml_X12_214 (s_X12_isIn hc30) (by decide) rfl rfl (Nat.le_of_ble_eq_true rfl) dX12_pages_18 ?_
    refine V.ifz_ne (tgt := 26) dX12_pages_21 rfl (fun c => ?_) (fun c => ?_)
    · replace hF := ip c hF
      refine V.iconst (v := 0) dX12_pages_26 rfl ?_
      refine V.istore_n [(2, _), (0, _), (1, _)] dX12_pages_27 rfl (by decide) rfl ?_
      refine V.iconst (v := 0) dX12_pages_28 rfl ?_
      refine V.istore_n [(3, _), (2, _), (0, _), (1, _)] dX12_pages_29 rfl (by decide) rfl ?_
      exact V.sub [2, 3, 1, 0] rfl (v_X12_pages_30 n _ _ _ _ hF)
    · replace hF := iq c hF
      refine V.iconst (v := -1) dX12_pages_24 rfl ?_
      cases hF
      exact V.iret dX12_pages_25
/-! MonsterCotModel.left -/
theorem dX12_left_0 : decode cX12_left 0 = .ok (.aload_n 0, 1) := by decide +kernel
theorem dX12_left_1 : decode cX12_left 1 = .ok (.iconst 0, 1) := by decide +kernel
theorem dX12_left_2 : decode cX12_left 2 = .ok (.putfield 93, 3) := by decide +kernel
theorem dX12_left_5 : decode cX12_left 5 = .ok (.aload_n 0, 1) := by decide +kernel
theorem dX12_left_6 : decode cX12_left 6 = .ok (.iload_n 1, 1) := by decide +kernel
theorem dX12_left_7 : decode cX12_left 7 = .ok (.invokevirtual 337, 3) := by decide +kernel
theorem dX12_left_10 : decode cX12_left 10 = .ok (.ifCond .eq 22, 3) := by decide +kernel
theorem dX12_left_13 : decode cX12_left 13 = .ok (.aload_n 0, 1) := by decide +kernel
theorem dX12_left_14 : decode cX12_left 14 = .ok (.iload_n 1, 1) := by decide +kernel
theorem dX12_left_15 : decode cX12_left 15 = .ok (.invokevirtual 325, 3) := by decide +kernel
theorem dX12_left_18 : decode cX12_left 18 = .ok (.aload_n 0, 1) := by decide +kernel
theorem dX12_left_19 : decode cX12_left 19 = .ok (.getfield 61, 3) := by decide +kernel
theorem dX12_left_22 : decode cX12_left 22 = .ok (.iconst 3, 1) := by decide +kernel
theorem dX12_left_23 : decode cX12_left 23 = .ok (.iload_n 1, 1) := by decide +kernel
theorem dX12_left_24 : decode cX12_left 24 = .ok (.imul, 1) := by decide +kernel
theorem dX12_left_25 : decode cX12_left 25 = .ok (.iconst 0, 1) := by decide +kernel
theorem dX12_left_26 : decode cX12_left 26 = .ok (.iadd, 1) := by decide +kernel
theorem dX12_left_27 : decode cX12_left 27 = .ok (.iaload, 1) := by decide +kernel
theorem dX12_left_28 : decode cX12_left 28 = .ok (.isub, 1) := by decide +kernel
theorem dX12_left_29 : decode cX12_left 29 = .ok (.goto 4, 3) := by decide +kernel
theorem dX12_left_32 : decode cX12_left 32 = .ok (.iconst (-1), 1) := by decide +kernel
theorem dX12_left_33 : decode cX12_left 33 = .ok (.ireturn, 1) := by decide +kernel
def X12_left (x1 : Int32) (h : Mm) : Option (Int32 × Mm) := (bp (X12_isHouse x1 (wI h 251 0 (0 : Int32))) (fun r5 => (if r5 = true then (bp (X12_strength x1 (wI h 251 0 (0 : Int32))) (fun r7 => (if inB (((3 : Int32) * x1) + (0 : Int32)) (aln 264) then (some ((r7 - ((wI h 251 0 (0 : Int32)).1 264 (((3 : Int32) * x1) + (0 : Int32)).toNatClampNeg)), (wI h 251 0 (0 : Int32)))) else none))) else (some ((-1 : Int32), (wI h 251 0 (0 : Int32)))))))
set_option maxRecDepth 100000 in
set_option maxHeartbeats 4000000 in
theorem s_X12_left {X : WX} {o : Mm} {x1 : Int32} {rv : Int32} {hz : Mm} {h : Mm} (hF : X12_left x1 h = some (rv, hz)) : Sat X yX12_left cX12_left 2 (some .int) 2 [.ref (xa X 251), .int x1] false o h (some (.int rv)) hz := by
  unfold X12_left at hF
  refine Sat.mk (own := RX12) rfl (by decide +kernel) (Nat.le_of_ble_eq_true rfl) (fun G => ?_)
  refine V.sub (lv2 := [(0, _), (1, _)]) [0, 1] rfl ?_
  refine V.aload_n 0 dX12_left_0 rfl rfl ?_
  refine V.iconst (v := 0) dX12_left_1 rfl ?_
  refine V.putI fl_X12_93 rfl (tyX12_ok 0 (by decide)) rfl rfl sh_251 rfl km_251 dX12_left_2 ?_
  refine V.aload_n 0 dX12_left_5 rfl rfl ?_
  refine V.iload_n 1 dX12_left_6 rfl rfl ?_
  obtain ⟨r5, hc6, hF⟩ := bp_s hF
  refine V.callVi mf_X12_isHouse ml_X12_337 sh_251 (s_X12_isHouse hc6) (by decide) rfl rfl (Nat.le_of_ble_eq_true rfl) dX12_left_7 ?_
  refine V.ifz_eq (tgt := 32) dX12_left_10 rfl (fun c => ?_) (fun c => ?_)
  · replace hF := iq c hF
    refine V.iconst (v := -1) dX12_left_32 rfl ?_
    cases hF
    exact V.iret dX12_left_33
  · replace hF := ip c hF
    refine V.aload_n 0 dX12_left_13 rfl rfl ?_
    refine V.iload_n 1 dX12_left_14 rfl rfl ?_
    obtain ⟨r7, hc8, hF⟩ := bp_s hF
    refine V.callVi mf_X12_strength ml_X12_325 sh_251 (s_X12_strength hc8) (by decide) rfl rfl (Nat.le_of_ble_eq_true rfl) dX12_left_15 ?_
    refine V.aload_n 0 dX12_left_18 rfl rfl ?_
    refine V.getR (v := 264) fl_X12_61 sh_251 rfl fx_251_32 (by decide) dX12_left_19 ?_
    refine V.iconst (v := 3) dX12_left_22 rfl ?_
    refine V.iload_n 1 dX12_left_23 rfl rfl ?_
    refine V.imul dX12_left_24 ?_
    refine V.iconst (v := 0) dX12_left_25 rfl ?_
    refine V.iadd dX12_left_26 ?_
    obtain ⟨hk, hF⟩ := ck hF
    refine V.iald io_264 hk dX12_left_27 ?_
    refine V.isub dX12_left_28 ?_
    refine V.goto (tgt := 33) dX12_left_29 rfl ?_
    cases hF
    exact V.iret dX12_left_33
/-! MonsterCotModel.image -/
theorem dX12_image_0 : decode cX12_image 0 = .ok (.aload_n 0, 1) := by decide +kernel
theorem dX12_image_1 : decode cX12_image 1 = .ok (.iconst 0, 1) := by decide +kernel
theorem dX12_image_2 : decode cX12_image 2 = .ok (.putfield 93, 3) := by decide +kernel
theorem dX12_image_5 : decode cX12_image 5 = .ok (.aload_n 0, 1) := by decide +kernel
theorem dX12_image_6 : decode cX12_image 6 = .ok (.getfield 291, 3) := by decide +kernel
theorem dX12_image_9 : decode cX12_image 9 = .ok (.ifCond .ne 5, 3) := by decide +kernel
theorem dX12_image_12 : decode cX12_image 12 = .ok (.iconst (-1), 1) := by decide +kernel
theorem dX12_image_13 : decode cX12_image 13 = .ok (.ireturn, 1) := by decide +kernel
theorem dX12_image_14 : decode cX12_image 14 = .ok (.iconst 0, 1) := by decide +kernel
theorem dX12_image_15 : decode cX12_image 15 = .ok (.istore_n 1, 1) := by decide +kernel
theorem dX12_image_16 : decode cX12_image 16 = .ok (.iload_n 1, 1) := by decide +kernel
theorem dX12_image_17 : decode cX12_image 17 = .ok (.sipush 211, 3) := by decide +kernel
theorem dX12_image_20 : decode cX12_image 20 = .ok (.if_icmp .ge 21, 3) := by decide +kernel
theorem dX12_image_23 : decode cX12_image 23 = .ok (.aload_n 0, 1) := by decide +kernel
theorem dX12_image_24 : decode cX12_image 24 = .ok (.getfield 90, 3) := by decide +kernel
theorem dX12_image_27 : decode cX12_image 27 = .ok (.iload_n 1, 1) := by decide +kernel
theorem dX12_image_28 : decode cX12_image 28 = .ok (.aload_n 0, 1) := by decide +kernel
theorem dX12_image_29 : decode cX12_image 29 = .ok (.getfield 61, 3) := by decide +kernel
theorem dX12_image_32 : decode cX12_image 32 = .ok (.iload_n 1, 1) := by decide +kernel
theorem dX12_image_33 : decode cX12_image 33 = .ok (.iaload, 1) := by decide +kernel
theorem dX12_image_34 : decode cX12_image 34 = .ok (.iastore, 1) := by decide +kernel
theorem dX12_image_35 : decode cX12_image 35 = .ok (.iinc 1 1, 3) := by decide +kernel
theorem dX12_image_38 : decode cX12_image 38 = .ok (.goto (-22), 3) := by decide +kernel
theorem dX12_image_41 : decode cX12_image 41 = .ok (.aload_n 0, 1) := by decide +kernel
theorem dX12_image_42 : decode cX12_image 42 = .ok (.iconst 1, 1) := by decide +kernel
theorem dX12_image_43 : decode cX12_image 43 = .ok (.putfield 300, 3) := by decide +kernel
theorem dX12_image_46 : decode cX12_image 46 = .ok (.aload_n 0, 1) := by decide +kernel
theorem dX12_image_47 : decode cX12_image 47 = .ok (.getfield 61, 3) := by decide +kernel
theorem dX12_image_50 : decode cX12_image 50 = .ok (.bipush 29, 2) := by decide +kernel
theorem dX12_image_52 : decode cX12_image 52 = .ok (.iaload, 1) := by decide +kernel
theorem dX12_image_53 : decode cX12_image 53 = .ok (.ireturn, 1) := by decide +kernel
def X12_image_16 (n : Nat) : Nat → Int32 → Mm → Option (Int32 × Mm)
  | 0, _, _ => none
  | f + 1, x1, h => (if (211 : Int32) ≤ x1 then (if inB (29 : Int32) (aln 264) then (some (((wI h 251 50 (1 : Int32)).1 264 (29 : Int32).toNatClampNeg), (wI h 251 50 (1 : Int32)))) else none) else (if inB x1 (aln 264) then (if inB x1 (aln 272) then ((X12_image_16 n f) (x1 + (1)) (wI h 272 x1.toNatClampNeg (h.1 264 x1.toNatClampNeg))) else none) else none))
set_option maxRecDepth 100000 in
set_option maxHeartbeats 4000000 in
theorem v_X12_image_16 {X : WX} {G : GX} {o : Mm} {n : Nat} {rv : Int32} {hz : Mm} : ∀ (f : Nat) (x1 : Int32) (h : Mm), X12_image_16 n f x1 h = some (rv, hz) → V X G RX12 cX12_image 2 (some .int) 1 0 0 (QR X G false o (some (.int rv)) hz) false o 16 [(0, .ref (xa X 251)), (1, .int x1)] [] h := by
  intro f
  induction f with
  | zero => intro x1 h hF; exact nomatch (show (none : Option (Int32 × Mm)) = some (rv, hz) from hF)
  | succ f ih =>
    intro x1 h hF
    unfold X12_image_16 at hF
    refine V.iload_n 1 dX12_image_16 rfl rfl ?_
    refine V.sipush (v := 211) dX12_image_17 (by decide) ?_
    refine V.icmp_ge (tgt := 41) dX12_image_20 rfl (fun c => ?_) (fun c => ?_)
    · replace hF := ip c hF
      refine V.aload_n 0 dX12_image_41 rfl rfl ?_
      refine V.iconst (v := 1) dX12_image_42 rfl ?_
      refine V.putI fl_X12_300 rfl (tyX12_ok 50 (by decide)) rfl rfl sh_251 rfl km_251 dX12_image_43 ?_
      refine V.aload_n 0 dX12_image_46 rfl rfl ?_
      refine V.getR (v := 264) fl_X12_61 sh_251 rfl fx_251_32 (by decide) dX12_image_47 ?_
      refine V.bipush (v := 29) dX12_image_50 (by decide) ?_
      obtain ⟨hk, hF⟩ := ck hF
      refine V.iald io_264 hk dX12_image_52 ?_
      cases hF
      exact V.iret dX12_image_53
    · replace hF := iq c hF
      refine V.aload_n 0 dX12_image_23 rfl rfl ?_
      refine V.getR (v := 272) fl_X12_90 sh_251 rfl fx_251_49 (by decide) dX12_image_24 ?_
      refine V.iload_n 1 dX12_image_27 rfl rfl ?_
      refine V.aload_n 0 dX12_image_28 rfl rfl ?_
      refine V.getR (v := 264) fl_X12_61 sh_251 rfl fx_251_32 (by decide) dX12_image_29 ?_
      refine V.iload_n 1 dX12_image_32 rfl rfl ?_
      obtain ⟨hk, hF⟩ := ck hF
      refine V.iald io_264 hk dX12_image_33 ?_
      obtain ⟨hk, hF⟩ := ck hF
      refine V.iast io_272 hk dX12_image_34 ?_
      refine V.iinc (v := (x1 + (1))) 1 [(1, _), (0, _)] dX12_image_35 rfl rfl (by decide) rfl ?_
      refine V.goto (tgt := 16) dX12_image_38 rfl ?_
      exact V.sub [1, 0] rfl (ih _ _ hF)
def X12_image (n : Nat) (h : Mm) : Option (Int32 × Mm) := (if ((wI h 251 0 (0 : Int32)).1 251 27) = 0 then (some ((-1 : Int32), (wI h 251 0 (0 : Int32)))) else (X12_image_16 n n (0 : Int32) (wI h 251 0 (0 : Int32))))
set_option maxRecDepth 100000 in
set_option maxHeartbeats 4000000 in
theorem s_X12_image {X : WX} {o : Mm} {n : Nat} {rv : Int32} {hz : Mm} {h : Mm} (hF : X12_image n h = some (rv, hz)) : Sat X yX12_image cX12_image 2 (some .int) 1 [.ref (xa X 251)] false o h (some (.int rv)) hz := by
  unfold X12_image at hF
  refine Sat.mk (own := RX12) rfl (by decide +kernel) (Nat.le_of_ble_eq_true rfl) (fun G => ?_)
  refine V.sub (lv2 := [(0, _)]) [0] rfl ?_
  refine V.aload_n 0 dX12_image_0 rfl rfl ?_
  refine V.iconst (v := 0) dX12_image_1 rfl ?_
  refine V.putI fl_X12_93 rfl (tyX12_ok 0 (by decide)) rfl rfl sh_251 rfl km_251 dX12_image_2 ?_
  refine V.aload_n 0 dX12_image_5 rfl rfl ?_
  refine V.getI fl_X12_291 sh_251 rfl km_251 dX12_image_6 ?_
  refine V.if_ne (tgt := 14) dX12_image_9 rfl (fun c => ?_) (fun c => ?_)
  · replace hF := iq c hF
    refine V.iconst (v := 0) dX12_image_14 rfl ?_
    refine V.istore_n [(1, _), (0, _)] dX12_image_15 rfl (by decide) rfl ?_
    exact V.sub [1, 0] rfl (v_X12_image_16 n _ _ hF)
  · replace hF := ip c hF
    refine V.iconst (v := -1) dX12_image_12 rfl ?_
    cases hF
    exact V.iret dX12_image_13
/-! MonsterCotModel.back -/
theorem dX12_back_0 : decode cX12_back 0 = .ok (.aload_n 0, 1) := by decide +kernel
theorem dX12_back_1 : decode cX12_back 1 = .ok (.iconst 0, 1) := by decide +kernel
theorem dX12_back_2 : decode cX12_back 2 = .ok (.putfield 93, 3) := by decide +kernel
theorem dX12_back_5 : decode cX12_back 5 = .ok (.aload_n 0, 1) := by decide +kernel
theorem dX12_back_6 : decode cX12_back 6 = .ok (.getfield 300, 3) := by decide +kernel
theorem dX12_back_9 : decode cX12_back 9 = .ok (.ifCond .ne 5, 3) := by decide +kernel
theorem dX12_back_12 : decode cX12_back 12 = .ok (.iconst (-1), 1) := by decide +kernel
theorem dX12_back_13 : decode cX12_back 13 = .ok (.ireturn, 1) := by decide +kernel
theorem dX12_back_14 : decode cX12_back 14 = .ok (.iconst 0, 1) := by decide +kernel
theorem dX12_back_15 : decode cX12_back 15 = .ok (.istore_n 1, 1) := by decide +kernel
theorem dX12_back_16 : decode cX12_back 16 = .ok (.iload_n 1, 1) := by decide +kernel
theorem dX12_back_17 : decode cX12_back 17 = .ok (.sipush 211, 3) := by decide +kernel
theorem dX12_back_20 : decode cX12_back 20 = .ok (.if_icmp .ge 21, 3) := by decide +kernel
theorem dX12_back_23 : decode cX12_back 23 = .ok (.aload_n 0, 1) := by decide +kernel
theorem dX12_back_24 : decode cX12_back 24 = .ok (.getfield 61, 3) := by decide +kernel
theorem dX12_back_27 : decode cX12_back 27 = .ok (.iload_n 1, 1) := by decide +kernel
theorem dX12_back_28 : decode cX12_back 28 = .ok (.aload_n 0, 1) := by decide +kernel
theorem dX12_back_29 : decode cX12_back 29 = .ok (.getfield 90, 3) := by decide +kernel
theorem dX12_back_32 : decode cX12_back 32 = .ok (.iload_n 1, 1) := by decide +kernel
theorem dX12_back_33 : decode cX12_back 33 = .ok (.iaload, 1) := by decide +kernel
theorem dX12_back_34 : decode cX12_back 34 = .ok (.iastore, 1) := by decide +kernel
theorem dX12_back_35 : decode cX12_back 35 = .ok (.iinc 1 1, 3) := by decide +kernel
theorem dX12_back_38 : decode cX12_back 38 = .ok (.goto (-22), 3) := by decide +kernel
theorem dX12_back_41 : decode cX12_back 41 = .ok (.aload_n 0, 1) := by decide +kernel
theorem dX12_back_42 : decode cX12_back 42 = .ok (.iconst 0, 1) := by decide +kernel
theorem dX12_back_43 : decode cX12_back 43 = .ok (.putfield 297, 3) := by decide +kernel
theorem dX12_back_46 : decode cX12_back 46 = .ok (.aload_n 0, 1) := by decide +kernel
theorem dX12_back_47 : decode cX12_back 47 = .ok (.getfield 61, 3) := by decide +kernel
theorem dX12_back_50 : decode cX12_back 50 = .ok (.bipush 29, 2) := by decide +kernel
theorem dX12_back_52 : decode cX12_back 52 = .ok (.iaload, 1) := by decide +kernel
theorem dX12_back_53 : decode cX12_back 53 = .ok (.ireturn, 1) := by decide +kernel
def X12_back_16 (n : Nat) : Nat → Int32 → Mm → Option (Int32 × Mm)
  | 0, _, _ => none
  | f + 1, x1, h => (if (211 : Int32) ≤ x1 then (if inB (29 : Int32) (aln 264) then (some (((wI h 251 39 (0 : Int32)).1 264 (29 : Int32).toNatClampNeg), (wI h 251 39 (0 : Int32)))) else none) else (if inB x1 (aln 272) then (if inB x1 (aln 264) then ((X12_back_16 n f) (x1 + (1)) (wI h 264 x1.toNatClampNeg (h.1 272 x1.toNatClampNeg))) else none) else none))
set_option maxRecDepth 100000 in
set_option maxHeartbeats 4000000 in
theorem v_X12_back_16 {X : WX} {G : GX} {o : Mm} {n : Nat} {rv : Int32} {hz : Mm} : ∀ (f : Nat) (x1 : Int32) (h : Mm), X12_back_16 n f x1 h = some (rv, hz) → V X G RX12 cX12_back 2 (some .int) 1 0 0 (QR X G false o (some (.int rv)) hz) false o 16 [(0, .ref (xa X 251)), (1, .int x1)] [] h := by
  intro f
  induction f with
  | zero => intro x1 h hF; exact nomatch (show (none : Option (Int32 × Mm)) = some (rv, hz) from hF)
  | succ f ih =>
    intro x1 h hF
    unfold X12_back_16 at hF
    refine V.iload_n 1 dX12_back_16 rfl rfl ?_
    refine V.sipush (v := 211) dX12_back_17 (by decide) ?_
    refine V.icmp_ge (tgt := 41) dX12_back_20 rfl (fun c => ?_) (fun c => ?_)
    · replace hF := ip c hF
      refine V.aload_n 0 dX12_back_41 rfl rfl ?_
      refine V.iconst (v := 0) dX12_back_42 rfl ?_
      refine V.putI fl_X12_297 rfl (tyX12_ok 39 (by decide)) rfl rfl sh_251 rfl km_251 dX12_back_43 ?_
      refine V.aload_n 0 dX12_back_46 rfl rfl ?_
      refine V.getR (v := 264) fl_X12_61 sh_251 rfl fx_251_32 (by decide) dX12_back_47 ?_
      refine V.bipush (v := 29) dX12_back_50 (by decide) ?_
      obtain ⟨hk, hF⟩ := ck hF
      refine V.iald io_264 hk dX12_back_52 ?_
      cases hF
      exact V.iret dX12_back_53
    · replace hF := iq c hF
      refine V.aload_n 0 dX12_back_23 rfl rfl ?_
      refine V.getR (v := 264) fl_X12_61 sh_251 rfl fx_251_32 (by decide) dX12_back_24 ?_
      refine V.iload_n 1 dX12_back_27 rfl rfl ?_
      refine V.aload_n 0 dX12_back_28 rfl rfl ?_
      refine V.getR (v := 272) fl_X12_90 sh_251 rfl fx_251_49 (by decide) dX12_back_29 ?_
      refine V.iload_n 1 dX12_back_32 rfl rfl ?_
      obtain ⟨hk, hF⟩ := ck hF
      refine V.iald io_272 hk dX12_back_33 ?_
      obtain ⟨hk, hF⟩ := ck hF
      refine V.iast io_264 hk dX12_back_34 ?_
      refine V.iinc (v := (x1 + (1))) 1 [(1, _), (0, _)] dX12_back_35 rfl rfl (by decide) rfl ?_
      refine V.goto (tgt := 16) dX12_back_38 rfl ?_
      exact V.sub [1, 0] rfl (ih _ _ hF)
def X12_back (n : Nat) (h : Mm) : Option (Int32 × Mm) := (if ((wI h 251 0 (0 : Int32)).1 251 50) = 0 then (some ((-1 : Int32), (wI h 251 0 (0 : Int32)))) else (X12_back_16 n n (0 : Int32) (wI h 251 0 (0 : Int32))))
set_option maxRecDepth 100000 in
set_option maxHeartbeats 4000000 in
theorem s_X12_back {X : WX} {o : Mm} {n : Nat} {rv : Int32} {hz : Mm} {h : Mm} (hF : X12_back n h = some (rv, hz)) : Sat X yX12_back cX12_back 2 (some .int) 1 [.ref (xa X 251)] false o h (some (.int rv)) hz := by
  unfold X12_back at hF
  refine Sat.mk (own := RX12) rfl (by decide +kernel) (Nat.le_of_ble_eq_true rfl) (fun G => ?_)
  refine V.sub (lv2 := [(0, _)]) [0] rfl ?_
  refine V.aload_n 0 dX12_back_0 rfl rfl ?_
  refine V.iconst (v := 0) dX12_back_1 rfl ?_
  refine V.putI fl_X12_93 rfl (tyX12_ok 0 (by decide)) rfl rfl sh_251 rfl km_251 dX12_back_2 ?_
  refine V.aload_n 0 dX12_back_5 rfl rfl ?_
  refine V.getI fl_X12_300 sh_251 rfl km_251 dX12_back_6 ?_
  refine V.if_ne (tgt := 14) dX12_back_9 rfl (fun c => ?_) (fun c => ?_)
  · replace hF := iq c hF
    refine V.iconst (v := 0) dX12_back_14 rfl ?_
    refine V.istore_n [(1, _), (0, _)] dX12_back_15 rfl (by decide) rfl ?_
    exact V.sub [1, 0] rfl (v_X12_back_16 n _ _ hF)
  · replace hF := ip c hF
    refine V.iconst (v := -1) dX12_back_12 rfl ?_
    cases hF
    exact V.iret dX12_back_13
/-! MonsterCotModel.count -/
theorem dX12_count_0 : decode cX12_count 0 = .ok (.aload_n 0, 1) := by decide +kernel
theorem dX12_count_1 : decode cX12_count 1 = .ok (.iconst 0, 1) := by decide +kernel
theorem dX12_count_2 : decode cX12_count 2 = .ok (.putfield 93, 3) := by decide +kernel
theorem dX12_count_5 : decode cX12_count 5 = .ok (.iload_n 1, 1) := by decide +kernel
theorem dX12_count_6 : decode cX12_count 6 = .ok (.tableswitch 179 0 15 #[78, 83, 88, 93, 98, 103, 108, 116, 124, 132, 140, 148, 156, 161, 166, 174], 78) := by decide +kernel
theorem dX12_count_84 : decode cX12_count 84 = .ok (.aload_n 0, 1) := by decide +kernel
theorem dX12_count_85 : decode cX12_count 85 = .ok (.getfield 291, 3) := by decide +kernel
theorem dX12_count_88 : decode cX12_count 88 = .ok (.ireturn, 1) := by decide +kernel
theorem dX12_count_89 : decode cX12_count 89 = .ok (.aload_n 0, 1) := by decide +kernel
theorem dX12_count_90 : decode cX12_count 90 = .ok (.getfield 288, 3) := by decide +kernel
theorem dX12_count_93 : decode cX12_count 93 = .ok (.ireturn, 1) := by decide +kernel
theorem dX12_count_94 : decode cX12_count 94 = .ok (.aload_n 0, 1) := by decide +kernel
theorem dX12_count_95 : decode cX12_count 95 = .ok (.getfield 280, 3) := by decide +kernel
theorem dX12_count_98 : decode cX12_count 98 = .ok (.ireturn, 1) := by decide +kernel
theorem dX12_count_99 : decode cX12_count 99 = .ok (.aload_n 0, 1) := by decide +kernel
theorem dX12_count_100 : decode cX12_count 100 = .ok (.getfield 283, 3) := by decide +kernel
theorem dX12_count_103 : decode cX12_count 103 = .ok (.ireturn, 1) := by decide +kernel
theorem dX12_count_104 : decode cX12_count 104 = .ok (.aload_n 0, 1) := by decide +kernel
theorem dX12_count_105 : decode cX12_count 105 = .ok (.getfield 106, 3) := by decide +kernel
theorem dX12_count_108 : decode cX12_count 108 = .ok (.ireturn, 1) := by decide +kernel
theorem dX12_count_109 : decode cX12_count 109 = .ok (.aload_n 0, 1) := by decide +kernel
theorem dX12_count_110 : decode cX12_count 110 = .ok (.getfield 67, 3) := by decide +kernel
theorem dX12_count_113 : decode cX12_count 113 = .ok (.ireturn, 1) := by decide +kernel
theorem dX12_count_114 : decode cX12_count 114 = .ok (.aload_n 0, 1) := by decide +kernel
theorem dX12_count_115 : decode cX12_count 115 = .ok (.getfield 61, 3) := by decide +kernel
theorem dX12_count_118 : decode cX12_count 118 = .ok (.bipush 29, 2) := by decide +kernel
theorem dX12_count_120 : decode cX12_count 120 = .ok (.iaload, 1) := by decide +kernel
theorem dX12_count_121 : decode cX12_count 121 = .ok (.ireturn, 1) := by decide +kernel
theorem dX12_count_122 : decode cX12_count 122 = .ok (.aload_n 0, 1) := by decide +kernel
theorem dX12_count_123 : decode cX12_count 123 = .ok (.getfield 61, 3) := by decide +kernel
theorem dX12_count_126 : decode cX12_count 126 = .ok (.bipush 23, 2) := by decide +kernel
theorem dX12_count_128 : decode cX12_count 128 = .ok (.iaload, 1) := by decide +kernel
theorem dX12_count_129 : decode cX12_count 129 = .ok (.ireturn, 1) := by decide +kernel
theorem dX12_count_130 : decode cX12_count 130 = .ok (.aload_n 0, 1) := by decide +kernel
theorem dX12_count_131 : decode cX12_count 131 = .ok (.getfield 61, 3) := by decide +kernel
theorem dX12_count_134 : decode cX12_count 134 = .ok (.bipush 27, 2) := by decide +kernel
theorem dX12_count_136 : decode cX12_count 136 = .ok (.iaload, 1) := by decide +kernel
theorem dX12_count_137 : decode cX12_count 137 = .ok (.ireturn, 1) := by decide +kernel
theorem dX12_count_138 : decode cX12_count 138 = .ok (.aload_n 0, 1) := by decide +kernel
theorem dX12_count_139 : decode cX12_count 139 = .ok (.getfield 61, 3) := by decide +kernel
theorem dX12_count_142 : decode cX12_count 142 = .ok (.bipush 28, 2) := by decide +kernel
theorem dX12_count_144 : decode cX12_count 144 = .ok (.iaload, 1) := by decide +kernel
theorem dX12_count_145 : decode cX12_count 145 = .ok (.ireturn, 1) := by decide +kernel
theorem dX12_count_146 : decode cX12_count 146 = .ok (.aload_n 0, 1) := by decide +kernel
theorem dX12_count_147 : decode cX12_count 147 = .ok (.getfield 61, 3) := by decide +kernel
theorem dX12_count_150 : decode cX12_count 150 = .ok (.bipush 25, 2) := by decide +kernel
theorem dX12_count_152 : decode cX12_count 152 = .ok (.iaload, 1) := by decide +kernel
theorem dX12_count_153 : decode cX12_count 153 = .ok (.ireturn, 1) := by decide +kernel
theorem dX12_count_154 : decode cX12_count 154 = .ok (.aload_n 0, 1) := by decide +kernel
theorem dX12_count_155 : decode cX12_count 155 = .ok (.getfield 61, 3) := by decide +kernel
theorem dX12_count_158 : decode cX12_count 158 = .ok (.bipush 26, 2) := by decide +kernel
theorem dX12_count_160 : decode cX12_count 160 = .ok (.iaload, 1) := by decide +kernel
theorem dX12_count_161 : decode cX12_count 161 = .ok (.ireturn, 1) := by decide +kernel
theorem dX12_count_162 : decode cX12_count 162 = .ok (.aload_n 0, 1) := by decide +kernel
theorem dX12_count_163 : decode cX12_count 163 = .ok (.getfield 352, 3) := by decide +kernel
theorem dX12_count_166 : decode cX12_count 166 = .ok (.ireturn, 1) := by decide +kernel
theorem dX12_count_167 : decode cX12_count 167 = .ok (.aload_n 0, 1) := by decide +kernel
theorem dX12_count_168 : decode cX12_count 168 = .ok (.getfield 294, 3) := by decide +kernel
theorem dX12_count_171 : decode cX12_count 171 = .ok (.ireturn, 1) := by decide +kernel
theorem dX12_count_172 : decode cX12_count 172 = .ok (.aload_n 0, 1) := by decide +kernel
theorem dX12_count_173 : decode cX12_count 173 = .ok (.getfield 61, 3) := by decide +kernel
theorem dX12_count_176 : decode cX12_count 176 = .ok (.bipush 30, 2) := by decide +kernel
theorem dX12_count_178 : decode cX12_count 178 = .ok (.iaload, 1) := by decide +kernel
theorem dX12_count_179 : decode cX12_count 179 = .ok (.ireturn, 1) := by decide +kernel
theorem dX12_count_180 : decode cX12_count 180 = .ok (.aload_n 0, 1) := by decide +kernel
theorem dX12_count_181 : decode cX12_count 181 = .ok (.getfield 297, 3) := by decide +kernel
theorem dX12_count_184 : decode cX12_count 184 = .ok (.ireturn, 1) := by decide +kernel
theorem dX12_count_185 : decode cX12_count 185 = .ok (.ldc_w 400, 3) := by decide +kernel
theorem dX12_count_188 : decode cX12_count 188 = .ok (.ireturn, 1) := by decide +kernel
def X12_count (x1 : Int32) (h : Mm) : Option (Int32 × Mm) := (if x1 = 0 then (some (((wI h 251 0 (0 : Int32)).1 251 27), (wI h 251 0 (0 : Int32)))) else (if x1 = 1 then (some (((wI h 251 0 (0 : Int32)).1 251 26), (wI h 251 0 (0 : Int32)))) else (if x1 = 2 then (some (((wI h 251 0 (0 : Int32)).1 251 7), (wI h 251 0 (0 : Int32)))) else (if x1 = 3 then (some (((wI h 251 0 (0 : Int32)).1 251 30), (wI h 251 0 (0 : Int32)))) else (if x1 = 4 then (some (((wI h 251 0 (0 : Int32)).1 251 6), (wI h 251 0 (0 : Int32)))) else (if x1 = 5 then (some (((wI h 251 0 (0 : Int32)).1 251 34), (wI h 251 0 (0 : Int32)))) else (if x1 = 6 then (if inB (29 : Int32) (aln 264) then (some (((wI h 251 0 (0 : Int32)).1 264 (29 : Int32).toNatClampNeg), (wI h 251 0 (0 : Int32)))) else none) else (if x1 = 7 then (if inB (23 : Int32) (aln 264) then (some (((wI h 251 0 (0 : Int32)).1 264 (23 : Int32).toNatClampNeg), (wI h 251 0 (0 : Int32)))) else none) else (if x1 = 8 then (if inB (27 : Int32) (aln 264) then (some (((wI h 251 0 (0 : Int32)).1 264 (27 : Int32).toNatClampNeg), (wI h 251 0 (0 : Int32)))) else none) else (if x1 = 9 then (if inB (28 : Int32) (aln 264) then (some (((wI h 251 0 (0 : Int32)).1 264 (28 : Int32).toNatClampNeg), (wI h 251 0 (0 : Int32)))) else none) else (if x1 = 10 then (if inB (25 : Int32) (aln 264) then (some (((wI h 251 0 (0 : Int32)).1 264 (25 : Int32).toNatClampNeg), (wI h 251 0 (0 : Int32)))) else none) else (if x1 = 11 then (if inB (26 : Int32) (aln 264) then (some (((wI h 251 0 (0 : Int32)).1 264 (26 : Int32).toNatClampNeg), (wI h 251 0 (0 : Int32)))) else none) else (if x1 = 12 then (some (((wI h 251 0 (0 : Int32)).1 251 35), (wI h 251 0 (0 : Int32)))) else (if x1 = 13 then (some (((wI h 251 0 (0 : Int32)).1 251 47), (wI h 251 0 (0 : Int32)))) else (if x1 = 14 then (if inB (30 : Int32) (aln 264) then (some (((wI h 251 0 (0 : Int32)).1 264 (30 : Int32).toNatClampNeg), (wI h 251 0 (0 : Int32)))) else none) else (if x1 = 15 then (some (((wI h 251 0 (0 : Int32)).1 251 39), (wI h 251 0 (0 : Int32)))) else (some ((-1000000 : Int32), (wI h 251 0 (0 : Int32))))))))))))))))))))
set_option maxRecDepth 100000 in
set_option maxHeartbeats 4000000 in
theorem s_X12_count {X : WX} {o : Mm} {x1 : Int32} {rv : Int32} {hz : Mm} {h : Mm} (hF : X12_count x1 h = some (rv, hz)) : Sat X yX12_count cX12_count 2 (some .int) 1 [.ref (xa X 251), .int x1] false o h (some (.int rv)) hz := by
  unfold X12_count at hF
  refine Sat.mk (own := RX12) rfl (by decide +kernel) (Nat.le_of_ble_eq_true rfl) (fun G => ?_)
  refine V.sub (lv2 := [(0, _), (1, _)]) [0, 1] rfl ?_
  refine V.aload_n 0 dX12_count_0 rfl rfl ?_
  refine V.iconst (v := 0) dX12_count_1 rfl ?_
  refine V.putI fl_X12_93 rfl (tyX12_ok 0 (by decide)) rfl rfl sh_251 rfl km_251 dX12_count_2 ?_
  refine V.iload_n 1 dX12_count_5 rfl rfl ?_
  by_cases c0 : x1 = 0
  · replace hF := ip c0 hF
    refine V.tswIn (tgt := 84) c0 dX12_count_6 (by decide) (by decide) rfl rfl ?_
    refine V.aload_n 0 dX12_count_84 rfl rfl ?_
    refine V.getI fl_X12_291 sh_251 rfl km_251 dX12_count_85 ?_
    cases hF
    exact V.iret dX12_count_88
  replace hF := iq c0 hF
  by_cases c1 : x1 = 1
  · replace hF := ip c1 hF
    refine V.tswIn (tgt := 89) c1 dX12_count_6 (by decide) (by decide) rfl rfl ?_
    refine V.aload_n 0 dX12_count_89 rfl rfl ?_
    refine V.getI fl_X12_288 sh_251 rfl km_251 dX12_count_90 ?_
    cases hF
    exact V.iret dX12_count_93
  replace hF := iq c1 hF
  by_cases c2 : x1 = 2
  · replace hF := ip c2 hF
    refine V.tswIn (tgt := 94) c2 dX12_count_6 (by decide) (by decide) rfl rfl ?_
    refine V.aload_n 0 dX12_count_94 rfl rfl ?_
    refine V.getI fl_X12_280 sh_251 rfl km_251 dX12_count_95 ?_
    cases hF
    exact V.iret dX12_count_98
  replace hF := iq c2 hF
  by_cases c3 : x1 = 3
  · replace hF := ip c3 hF
    refine V.tswIn (tgt := 99) c3 dX12_count_6 (by decide) (by decide) rfl rfl ?_
    refine V.aload_n 0 dX12_count_99 rfl rfl ?_
    refine V.getI fl_X12_283 sh_251 rfl km_251 dX12_count_100 ?_
    cases hF
    exact V.iret dX12_count_103
  replace hF := iq c3 hF
  by_cases c4 : x1 = 4
  · replace hF := ip c4 hF
    refine V.tswIn (tgt := 104) c4 dX12_count_6 (by decide) (by decide) rfl rfl ?_
    refine V.aload_n 0 dX12_count_104 rfl rfl ?_
    refine V.getI fl_X12_106 sh_251 rfl km_251 dX12_count_105 ?_
    cases hF
    exact V.iret dX12_count_108
  replace hF := iq c4 hF
  by_cases c5 : x1 = 5
  · replace hF := ip c5 hF
    refine V.tswIn (tgt := 109) c5 dX12_count_6 (by decide) (by decide) rfl rfl ?_
    refine V.aload_n 0 dX12_count_109 rfl rfl ?_
    refine V.getI fl_X12_67 sh_251 rfl km_251 dX12_count_110 ?_
    cases hF
    exact V.iret dX12_count_113
  replace hF := iq c5 hF
  by_cases c6 : x1 = 6
  · replace hF := ip c6 hF
    refine V.tswIn (tgt := 114) c6 dX12_count_6 (by decide) (by decide) rfl rfl ?_
    refine V.aload_n 0 dX12_count_114 rfl rfl ?_
    refine V.getR (v := 264) fl_X12_61 sh_251 rfl fx_251_32 (by decide) dX12_count_115 ?_
    refine V.bipush (v := 29) dX12_count_118 (by decide) ?_
    obtain ⟨hk, hF⟩ := ck hF
    refine V.iald io_264 hk dX12_count_120 ?_
    cases hF
    exact V.iret dX12_count_121
  replace hF := iq c6 hF
  by_cases c7 : x1 = 7
  · replace hF := ip c7 hF
    refine V.tswIn (tgt := 122) c7 dX12_count_6 (by decide) (by decide) rfl rfl ?_
    refine V.aload_n 0 dX12_count_122 rfl rfl ?_
    refine V.getR (v := 264) fl_X12_61 sh_251 rfl fx_251_32 (by decide) dX12_count_123 ?_
    refine V.bipush (v := 23) dX12_count_126 (by decide) ?_
    obtain ⟨hk, hF⟩ := ck hF
    refine V.iald io_264 hk dX12_count_128 ?_
    cases hF
    exact V.iret dX12_count_129
  replace hF := iq c7 hF
  by_cases c8 : x1 = 8
  · replace hF := ip c8 hF
    refine V.tswIn (tgt := 130) c8 dX12_count_6 (by decide) (by decide) rfl rfl ?_
    refine V.aload_n 0 dX12_count_130 rfl rfl ?_
    refine V.getR (v := 264) fl_X12_61 sh_251 rfl fx_251_32 (by decide) dX12_count_131 ?_
    refine V.bipush (v := 27) dX12_count_134 (by decide) ?_
    obtain ⟨hk, hF⟩ := ck hF
    refine V.iald io_264 hk dX12_count_136 ?_
    cases hF
    exact V.iret dX12_count_137
  replace hF := iq c8 hF
  by_cases c9 : x1 = 9
  · replace hF := ip c9 hF
    refine V.tswIn (tgt := 138) c9 dX12_count_6 (by decide) (by decide) rfl rfl ?_
    refine V.aload_n 0 dX12_count_138 rfl rfl ?_
    refine V.getR (v := 264) fl_X12_61 sh_251 rfl fx_251_32 (by decide) dX12_count_139 ?_
    refine V.bipush (v := 28) dX12_count_142 (by decide) ?_
    obtain ⟨hk, hF⟩ := ck hF
    refine V.iald io_264 hk dX12_count_144 ?_
    cases hF
    exact V.iret dX12_count_145
  replace hF := iq c9 hF
  by_cases c10 : x1 = 10
  · replace hF := ip c10 hF
    refine V.tswIn (tgt := 146) c10 dX12_count_6 (by decide) (by decide) rfl rfl ?_
    refine V.aload_n 0 dX12_count_146 rfl rfl ?_
    refine V.getR (v := 264) fl_X12_61 sh_251 rfl fx_251_32 (by decide) dX12_count_147 ?_
    refine V.bipush (v := 25) dX12_count_150 (by decide) ?_
    obtain ⟨hk, hF⟩ := ck hF
    refine V.iald io_264 hk dX12_count_152 ?_
    cases hF
    exact V.iret dX12_count_153
  replace hF := iq c10 hF
  by_cases c11 : x1 = 11
  · replace hF := ip c11 hF
    refine V.tswIn (tgt := 154) c11 dX12_count_6 (by decide) (by decide) rfl rfl ?_
    refine V.aload_n 0 dX12_count_154 rfl rfl ?_
    refine V.getR (v := 264) fl_X12_61 sh_251 rfl fx_251_32 (by decide) dX12_count_155 ?_
    refine V.bipush (v := 26) dX12_count_158 (by decide) ?_
    obtain ⟨hk, hF⟩ := ck hF
    refine V.iald io_264 hk dX12_count_160 ?_
    cases hF
    exact V.iret dX12_count_161
  replace hF := iq c11 hF
  by_cases c12 : x1 = 12
  · replace hF := ip c12 hF
    refine V.tswIn (tgt := 162) c12 dX12_count_6 (by decide) (by decide) rfl rfl ?_
    refine V.aload_n 0 dX12_count_162 rfl rfl ?_
    refine V.getI fl_X12_352 sh_251 rfl km_251 dX12_count_163 ?_
    cases hF
    exact V.iret dX12_count_166
  replace hF := iq c12 hF
  by_cases c13 : x1 = 13
  · replace hF := ip c13 hF
    refine V.tswIn (tgt := 167) c13 dX12_count_6 (by decide) (by decide) rfl rfl ?_
    refine V.aload_n 0 dX12_count_167 rfl rfl ?_
    refine V.getI fl_X12_294 sh_251 rfl km_251 dX12_count_168 ?_
    cases hF
    exact V.iret dX12_count_171
  replace hF := iq c13 hF
  by_cases c14 : x1 = 14
  · replace hF := ip c14 hF
    refine V.tswIn (tgt := 172) c14 dX12_count_6 (by decide) (by decide) rfl rfl ?_
    refine V.aload_n 0 dX12_count_172 rfl rfl ?_
    refine V.getR (v := 264) fl_X12_61 sh_251 rfl fx_251_32 (by decide) dX12_count_173 ?_
    refine V.bipush (v := 30) dX12_count_176 (by decide) ?_
    obtain ⟨hk, hF⟩ := ck hF
    refine V.iald io_264 hk dX12_count_178 ?_
    cases hF
    exact V.iret dX12_count_179
  replace hF := iq c14 hF
  by_cases c15 : x1 = 15
  · replace hF := ip c15 hF
    refine V.tswIn (tgt := 180) c15 dX12_count_6 (by decide) (by decide) rfl rfl ?_
    refine V.aload_n 0 dX12_count_180 rfl rfl ?_
    refine V.getI fl_X12_297 sh_251 rfl km_251 dX12_count_181 ?_
    cases hF
    exact V.iret dX12_count_184
  replace hF := iq c15 hF
  refine V.tswOut (tgt := 185) dX12_count_6 (tsw_out (by decide) (by decide) [0, 1, 2, 3, 4, 5, 6, 7, 8, 9, 10, 11, 12, 13, 14, 15] rfl (fun v hv => ?_)) rfl ?_
  · simp only [List.mem_cons, List.not_mem_nil, or_false] at hv
    rcases hv with rfl | rfl | rfl | rfl | rfl | rfl | rfl | rfl | rfl | rfl | rfl | rfl | rfl | rfl | rfl | rfl <;> assumption
  refine V.ldcw (v := -1000000) dX12_count_185 kc_X12_400 ?_
  cases hF
  exact V.iret dX12_count_188
