/-! MonsterCot$Search.fullest -/
theorem dX6_fullest_0 : decode cX6_fullest 0 = .ok (.iconst 0, 1) := by decide +kernel
theorem dX6_fullest_1 : decode cX6_fullest 1 = .ok (.istore_n 1, 1) := by decide +kernel
theorem dX6_fullest_2 : decode cX6_fullest 2 = .ok (.iconst 1, 1) := by decide +kernel
theorem dX6_fullest_3 : decode cX6_fullest 3 = .ok (.istore_n 2, 1) := by decide +kernel
theorem dX6_fullest_4 : decode cX6_fullest 4 = .ok (.iload_n 2, 1) := by decide +kernel
theorem dX6_fullest_5 : decode cX6_fullest 5 = .ok (.aload_n 0, 1) := by decide +kernel
theorem dX6_fullest_6 : decode cX6_fullest 6 = .ok (.getfield 28, 3) := by decide +kernel
theorem dX6_fullest_9 : decode cX6_fullest 9 = .ok (.invokevirtual 136, 3) := by decide +kernel
theorem dX6_fullest_12 : decode cX6_fullest 12 = .ok (.if_icmp .ge 34, 3) := by decide +kernel
theorem dX6_fullest_15 : decode cX6_fullest 15 = .ok (.aload_n 0, 1) := by decide +kernel
theorem dX6_fullest_16 : decode cX6_fullest 16 = .ok (.getfield 28, 3) := by decide +kernel
theorem dX6_fullest_19 : decode cX6_fullest 19 = .ok (.iload_n 2, 1) := by decide +kernel
theorem dX6_fullest_20 : decode cX6_fullest 20 = .ok (.invokevirtual 153, 3) := by decide +kernel
theorem dX6_fullest_23 : decode cX6_fullest 23 = .ok (.aload_n 0, 1) := by decide +kernel
theorem dX6_fullest_24 : decode cX6_fullest 24 = .ok (.getfield 28, 3) := by decide +kernel
theorem dX6_fullest_27 : decode cX6_fullest 27 = .ok (.iload_n 1, 1) := by decide +kernel
theorem dX6_fullest_28 : decode cX6_fullest 28 = .ok (.invokevirtual 153, 3) := by decide +kernel
theorem dX6_fullest_31 : decode cX6_fullest 31 = .ok (.if_icmp .le 7, 3) := by decide +kernel
theorem dX6_fullest_34 : decode cX6_fullest 34 = .ok (.iload_n 2, 1) := by decide +kernel
theorem dX6_fullest_35 : decode cX6_fullest 35 = .ok (.goto 4, 3) := by decide +kernel
theorem dX6_fullest_38 : decode cX6_fullest 38 = .ok (.iload_n 1, 1) := by decide +kernel
theorem dX6_fullest_39 : decode cX6_fullest 39 = .ok (.istore_n 1, 1) := by decide +kernel
theorem dX6_fullest_40 : decode cX6_fullest 40 = .ok (.iinc 2 1, 3) := by decide +kernel
theorem dX6_fullest_43 : decode cX6_fullest 43 = .ok (.goto (-39), 3) := by decide +kernel
theorem dX6_fullest_46 : decode cX6_fullest 46 = .ok (.iload_n 1, 1) := by decide +kernel
theorem dX6_fullest_47 : decode cX6_fullest 47 = .ok (.ireturn, 1) := by decide +kernel
def X6_fullest_39 (n : Nat) (K4 : Int32 → Int32 → Mm → Option Int32) (x2 : Int32) (s0 : Int32) (h : Mm) : Option Int32 := (K4 s0 (x2 + (1)) h)
set_option maxRecDepth 100000 in
set_option maxHeartbeats 4000000 in
theorem v_X6_fullest_39 {X : WX} {G : GX} {o : Mm} {n : Nat} {K4 : Int32 → Int32 → Mm → Option Int32} {rv : Int32} {h : Mm} (hK4 : ∀ (x1 : Int32) (x2 : Int32), K4 x1 x2 h = some rv → V X G RX6 cX6_fullest 3 (some .int) 4 0 0 (QR X G true o (some (.int rv)) h) true o 4 [(0, .ref (xa X 246)), (1, .int x1), (2, .int x2)] [] h) {x2 : Int32} {s0 : Int32} (hF : X6_fullest_39 n K4 x2 s0 h = some rv) : V X G RX6 cX6_fullest 3 (some .int) 4 0 0 (QR X G true o (some (.int rv)) h) true o 39 [(0, .ref (xa X 246)), (2, .int x2)] [.int s0] h := by
  unfold X6_fullest_39 at hF
  refine V.istore_n [(1, _), (0, _), (2, _)] dX6_fullest_39 rfl (by decide) rfl ?_
  refine V.iinc (v := (x2 + (1))) 2 [(2, _), (1, _), (0, _)] dX6_fullest_40 rfl rfl (by decide) rfl ?_
  refine V.goto (tgt := 4) dX6_fullest_43 rfl ?_
  exact V.sub [2, 1, 0] rfl (hK4 _ _ hF)
def X6_fullest_4 (n : Nat) : Nat → Int32 → Int32 → Mm → Option Int32
  | 0, _, _, _ => none
  | f + 1, x1, x2, h => (bp (X1_houses 13 h) (fun r25 => (if r25 ≤ x2 then (some x1) else (bp (X1_childrenOf 13 x2 h) (fun r27 => (bp (X1_childrenOf 13 x1 h) (fun r29 => (if r27 ≤ r29 then (X6_fullest_39 n (X6_fullest_4 n f) x2 x1 h) else (X6_fullest_39 n (X6_fullest_4 n f) x2 x2 h)))))))))
set_option maxRecDepth 100000 in
set_option maxHeartbeats 4000000 in
theorem v_X6_fullest_4 {X : WX} {G : GX} {o : Mm} {n : Nat} {rv : Int32} {h : Mm} : ∀ (f : Nat) (x1 : Int32) (x2 : Int32), X6_fullest_4 n f x1 x2 h = some rv → V X G RX6 cX6_fullest 3 (some .int) 4 0 0 (QR X G true o (some (.int rv)) h) true o 4 [(0, .ref (xa X 246)), (1, .int x1), (2, .int x2)] [] h := by
  intro f
  induction f with
  | zero => intro x1 x2 hF; exact nomatch (show (none : Option Int32) = some rv from hF)
  | succ f ih =>
    intro x1 x2 hF
    unfold X6_fullest_4 at hF
    refine V.iload_n 2 dX6_fullest_4 rfl rfl ?_
    refine V.aload_n 0 dX6_fullest_5 rfl rfl ?_
    refine V.getR (v := 13) fl_X6_28 sh_246 rfl fx_246_1 (by decide) dX6_fullest_6 ?_
    obtain ⟨r25, hc26, hF⟩ := bp_s hF
    refine V.callVi mf_X1_houses ml_X6_136 sh_13 (s_X1_houses (Or.inr rfl) hc26) (by decide) rfl rfl (Nat.le_of_ble_eq_true rfl) dX6_fullest_9 ?_
    refine V.icmp_ge (tgt := 46) dX6_fullest_12 rfl (fun c => ?_) (fun c => ?_)
    · replace hF := ip c hF
      refine V.iload_n 1 dX6_fullest_46 rfl rfl ?_
      cases hF
      exact V.iret dX6_fullest_47
    · replace hF := iq c hF
      refine V.aload_n 0 dX6_fullest_15 rfl rfl ?_
      refine V.getR (v := 13) fl_X6_28 sh_246 rfl fx_246_1 (by decide) dX6_fullest_16 ?_
      refine V.iload_n 2 dX6_fullest_19 rfl rfl ?_
      obtain ⟨r27, hc28, hF⟩ := bp_s hF
      refine V.callVi mf_X1_childrenOf ml_X6_153 sh_13 (s_X1_childrenOf (Or.inr rfl) hc28) (by decide) rfl rfl (Nat.le_of_ble_eq_true rfl) dX6_fullest_20 ?_
      refine V.aload_n 0 dX6_fullest_23 rfl rfl ?_
      refine V.getR (v := 13) fl_X6_28 sh_246 rfl fx_246_1 (by decide) dX6_fullest_24 ?_
      refine V.iload_n 1 dX6_fullest_27 rfl rfl ?_
      obtain ⟨r29, hc30, hF⟩ := bp_s hF
      refine V.callVi mf_X1_childrenOf ml_X6_153 sh_13 (s_X1_childrenOf (Or.inr rfl) hc30) (by decide) rfl rfl (Nat.le_of_ble_eq_true rfl) dX6_fullest_28 ?_
      refine V.icmp_le (tgt := 38) dX6_fullest_31 rfl (fun c => ?_) (fun c => ?_)
      · replace hF := ip c hF
        refine V.iload_n 1 dX6_fullest_38 rfl rfl ?_
        exact V.sub [0, 2] rfl (v_X6_fullest_39 ih hF)
      · replace hF := iq c hF
        refine V.iload_n 2 dX6_fullest_34 rfl rfl ?_
        refine V.goto (tgt := 39) dX6_fullest_35 rfl ?_
        exact V.sub [0, 2] rfl (v_X6_fullest_39 ih hF)
def X6_fullest (n : Nat) (h : Mm) : Option Int32 := (X6_fullest_4 n n (0 : Int32) (1 : Int32) h)
set_option maxRecDepth 100000 in
set_option maxHeartbeats 4000000 in
theorem s_X6_fullest {X : WX} {o : Mm} {n : Nat} {rv : Int32} {h : Mm} (hF : X6_fullest n h = some rv) : Sat X yX6_fullest cX6_fullest 3 (some .int) 4 [.ref (xa X 246)] true o h (some (.int rv)) h := by
  unfold X6_fullest at hF
  refine Sat.mk (own := RX6) rfl (by decide +kernel) (Nat.le_of_ble_eq_true rfl) (fun G => ?_)
  refine V.sub (lv2 := [(0, _)]) [0] rfl ?_
  refine V.iconst (v := 0) dX6_fullest_0 rfl ?_
  refine V.istore_n [(1, _), (0, _)] dX6_fullest_1 rfl (by decide) rfl ?_
  refine V.iconst (v := 1) dX6_fullest_2 rfl ?_
  refine V.istore_n [(2, _), (1, _), (0, _)] dX6_fullest_3 rfl (by decide) rfl ?_
  exact V.sub [2, 1, 0] rfl (v_X6_fullest_4 n _ _ hF)
/-! MonsterCot$Search.longest -/
theorem dX6_longest_0 : decode cX6_longest 0 = .ok (.iconst 0, 1) := by decide +kernel
theorem dX6_longest_1 : decode cX6_longest 1 = .ok (.istore_n 1, 1) := by decide +kernel
theorem dX6_longest_2 : decode cX6_longest 2 = .ok (.iconst 1, 1) := by decide +kernel
theorem dX6_longest_3 : decode cX6_longest 3 = .ok (.istore_n 2, 1) := by decide +kernel
theorem dX6_longest_4 : decode cX6_longest 4 = .ok (.iload_n 2, 1) := by decide +kernel
theorem dX6_longest_5 : decode cX6_longest 5 = .ok (.aload_n 0, 1) := by decide +kernel
theorem dX6_longest_6 : decode cX6_longest 6 = .ok (.getfield 28, 3) := by decide +kernel
theorem dX6_longest_9 : decode cX6_longest 9 = .ok (.invokevirtual 59, 3) := by decide +kernel
theorem dX6_longest_12 : decode cX6_longest 12 = .ok (.if_icmp .ge 34, 3) := by decide +kernel
theorem dX6_longest_15 : decode cX6_longest 15 = .ok (.aload_n 0, 1) := by decide +kernel
theorem dX6_longest_16 : decode cX6_longest 16 = .ok (.getfield 28, 3) := by decide +kernel
theorem dX6_longest_19 : decode cX6_longest 19 = .ok (.iload_n 2, 1) := by decide +kernel
theorem dX6_longest_20 : decode cX6_longest 20 = .ok (.invokevirtual 95, 3) := by decide +kernel
theorem dX6_longest_23 : decode cX6_longest 23 = .ok (.aload_n 0, 1) := by decide +kernel
theorem dX6_longest_24 : decode cX6_longest 24 = .ok (.getfield 28, 3) := by decide +kernel
theorem dX6_longest_27 : decode cX6_longest 27 = .ok (.iload_n 1, 1) := by decide +kernel
theorem dX6_longest_28 : decode cX6_longest 28 = .ok (.invokevirtual 95, 3) := by decide +kernel
theorem dX6_longest_31 : decode cX6_longest 31 = .ok (.if_icmp .le 7, 3) := by decide +kernel
theorem dX6_longest_34 : decode cX6_longest 34 = .ok (.iload_n 2, 1) := by decide +kernel
theorem dX6_longest_35 : decode cX6_longest 35 = .ok (.goto 4, 3) := by decide +kernel
theorem dX6_longest_38 : decode cX6_longest 38 = .ok (.iload_n 1, 1) := by decide +kernel
theorem dX6_longest_39 : decode cX6_longest 39 = .ok (.istore_n 1, 1) := by decide +kernel
theorem dX6_longest_40 : decode cX6_longest 40 = .ok (.iinc 2 1, 3) := by decide +kernel
theorem dX6_longest_43 : decode cX6_longest 43 = .ok (.goto (-39), 3) := by decide +kernel
theorem dX6_longest_46 : decode cX6_longest 46 = .ok (.iload_n 1, 1) := by decide +kernel
theorem dX6_longest_47 : decode cX6_longest 47 = .ok (.ireturn, 1) := by decide +kernel
def X6_longest_39 (n : Nat) (K4 : Int32 → Int32 → Mm → Option Int32) (x2 : Int32) (s0 : Int32) (h : Mm) : Option Int32 := (K4 s0 (x2 + (1)) h)
set_option maxRecDepth 100000 in
set_option maxHeartbeats 4000000 in
theorem v_X6_longest_39 {X : WX} {G : GX} {o : Mm} {n : Nat} {K4 : Int32 → Int32 → Mm → Option Int32} {rv : Int32} {h : Mm} (hK4 : ∀ (x1 : Int32) (x2 : Int32), K4 x1 x2 h = some rv → V X G RX6 cX6_longest 3 (some .int) 4 0 0 (QR X G true o (some (.int rv)) h) true o 4 [(0, .ref (xa X 246)), (1, .int x1), (2, .int x2)] [] h) {x2 : Int32} {s0 : Int32} (hF : X6_longest_39 n K4 x2 s0 h = some rv) : V X G RX6 cX6_longest 3 (some .int) 4 0 0 (QR X G true o (some (.int rv)) h) true o 39 [(0, .ref (xa X 246)), (2, .int x2)] [.int s0] h := by
  unfold X6_longest_39 at hF
  refine V.istore_n [(1, _), (0, _), (2, _)] dX6_longest_39 rfl (by decide) rfl ?_
  refine V.iinc (v := (x2 + (1))) 2 [(2, _), (1, _), (0, _)] dX6_longest_40 rfl rfl (by decide) rfl ?_
  refine V.goto (tgt := 4) dX6_longest_43 rfl ?_
  exact V.sub [2, 1, 0] rfl (hK4 _ _ hF)
def X6_longest_4 (n : Nat) : Nat → Int32 → Int32 → Mm → Option Int32
  | 0, _, _, _ => none
  | f + 1, x1, x2, h => (bp (X1_books 13 h) (fun r25 => (if r25 ≤ x2 then (some x1) else (bp (X1_pagesOf 13 x2 h) (fun r27 => (bp (X1_pagesOf 13 x1 h) (fun r29 => (if r27 ≤ r29 then (X6_longest_39 n (X6_longest_4 n f) x2 x1 h) else (X6_longest_39 n (X6_longest_4 n f) x2 x2 h)))))))))
set_option maxRecDepth 100000 in
set_option maxHeartbeats 4000000 in
theorem v_X6_longest_4 {X : WX} {G : GX} {o : Mm} {n : Nat} {rv : Int32} {h : Mm} : ∀ (f : Nat) (x1 : Int32) (x2 : Int32), X6_longest_4 n f x1 x2 h = some rv → V X G RX6 cX6_longest 3 (some .int) 4 0 0 (QR X G true o (some (.int rv)) h) true o 4 [(0, .ref (xa X 246)), (1, .int x1), (2, .int x2)] [] h := by
  intro f
  induction f with
  | zero => intro x1 x2 hF; exact nomatch (show (none : Option Int32) = some rv from hF)
  | succ f ih =>
    intro x1 x2 hF
    unfold X6_longest_4 at hF
    refine V.iload_n 2 dX6_longest_4 rfl rfl ?_
    refine V.aload_n 0 dX6_longest_5 rfl rfl ?_
    refine V.getR (v := 13) fl_X6_28 sh_246 rfl fx_246_1 (by decide) dX6_longest_6 ?_
    obtain ⟨r25, hc26, hF⟩ := bp_s hF
    refine V.callVi mf_X1_books ml_X6_59 sh_13 (s_X1_books (Or.inr rfl) hc26) (by decide) rfl rfl (Nat.le_of_ble_eq_true rfl) dX6_longest_9 ?_
    refine V.icmp_ge (tgt := 46) dX6_longest_12 rfl (fun c => ?_) (fun c => ?_)
    · replace hF := ip c hF
      refine V.iload_n 1 dX6_longest_46 rfl rfl ?_
      cases hF
      exact V.iret dX6_longest_47
    · replace hF := iq c hF
      refine V.aload_n 0 dX6_longest_15 rfl rfl ?_
      refine V.getR (v := 13) fl_X6_28 sh_246 rfl fx_246_1 (by decide) dX6_longest_16 ?_
      refine V.iload_n 2 dX6_longest_19 rfl rfl ?_
      obtain ⟨r27, hc28, hF⟩ := bp_s hF
      refine V.callVi mf_X1_pagesOf ml_X6_95 sh_13 (s_X1_pagesOf (Or.inr rfl) hc28) (by decide) rfl rfl (Nat.le_of_ble_eq_true rfl) dX6_longest_20 ?_
      refine V.aload_n 0 dX6_longest_23 rfl rfl ?_
      refine V.getR (v := 13) fl_X6_28 sh_246 rfl fx_246_1 (by decide) dX6_longest_24 ?_
      refine V.iload_n 1 dX6_longest_27 rfl rfl ?_
      obtain ⟨r29, hc30, hF⟩ := bp_s hF
      refine V.callVi mf_X1_pagesOf ml_X6_95 sh_13 (s_X1_pagesOf (Or.inr rfl) hc30) (by decide) rfl rfl (Nat.le_of_ble_eq_true rfl) dX6_longest_28 ?_
      refine V.icmp_le (tgt := 38) dX6_longest_31 rfl (fun c => ?_) (fun c => ?_)
      · replace hF := ip c hF
        refine V.iload_n 1 dX6_longest_38 rfl rfl ?_
        exact V.sub [0, 2] rfl (v_X6_longest_39 ih hF)
      · replace hF := iq c hF
        refine V.iload_n 2 dX6_longest_34 rfl rfl ?_
        refine V.goto (tgt := 39) dX6_longest_35 rfl ?_
        exact V.sub [0, 2] rfl (v_X6_longest_39 ih hF)
def X6_longest (n : Nat) (h : Mm) : Option Int32 := (X6_longest_4 n n (0 : Int32) (1 : Int32) h)
set_option maxRecDepth 100000 in
set_option maxHeartbeats 4000000 in
theorem s_X6_longest {X : WX} {o : Mm} {n : Nat} {rv : Int32} {h : Mm} (hF : X6_longest n h = some rv) : Sat X yX6_longest cX6_longest 3 (some .int) 4 [.ref (xa X 246)] true o h (some (.int rv)) h := by
  unfold X6_longest at hF
  refine Sat.mk (own := RX6) rfl (by decide +kernel) (Nat.le_of_ble_eq_true rfl) (fun G => ?_)
  refine V.sub (lv2 := [(0, _)]) [0] rfl ?_
  refine V.iconst (v := 0) dX6_longest_0 rfl ?_
  refine V.istore_n [(1, _), (0, _)] dX6_longest_1 rfl (by decide) rfl ?_
  refine V.iconst (v := 1) dX6_longest_2 rfl ?_
  refine V.istore_n [(2, _), (1, _), (0, _)] dX6_longest_3 rfl (by decide) rfl ?_
  exact V.sub [2, 1, 0] rfl (v_X6_longest_4 n _ _ hF)
/-! MonsterCot$Search.freshKinds -/
theorem dX6_freshKinds_0 : decode cX6_freshKinds 0 = .ok (.iconst 0, 1) := by decide +kernel
theorem dX6_freshKinds_1 : decode cX6_freshKinds 1 = .ok (.istore_n 1, 1) := by decide +kernel
theorem dX6_freshKinds_2 : decode cX6_freshKinds 2 = .ok (.iconst 0, 1) := by decide +kernel
theorem dX6_freshKinds_3 : decode cX6_freshKinds 3 = .ok (.istore_n 2, 1) := by decide +kernel
theorem dX6_freshKinds_4 : decode cX6_freshKinds 4 = .ok (.iload_n 2, 1) := by decide +kernel
theorem dX6_freshKinds_5 : decode cX6_freshKinds 5 = .ok (.iconst 4, 1) := by decide +kernel
theorem dX6_freshKinds_6 : decode cX6_freshKinds 6 = .ok (.if_icmp .ge 33, 3) := by decide +kernel
theorem dX6_freshKinds_9 : decode cX6_freshKinds 9 = .ok (.iload_n 1, 1) := by decide +kernel
theorem dX6_freshKinds_10 : decode cX6_freshKinds 10 = .ok (.aload_n 0, 1) := by decide +kernel
theorem dX6_freshKinds_11 : decode cX6_freshKinds 11 = .ok (.getfield 34, 3) := by decide +kernel
theorem dX6_freshKinds_14 : decode cX6_freshKinds 14 = .ok (.getfield 45, 3) := by decide +kernel
theorem dX6_freshKinds_17 : decode cX6_freshKinds 17 = .ok (.iload_n 2, 1) := by decide +kernel
theorem dX6_freshKinds_18 : decode cX6_freshKinds 18 = .ok (.invokestatic 79, 3) := by decide +kernel
theorem dX6_freshKinds_21 : decode cX6_freshKinds 21 = .ok (.ifCond .ne 9, 3) := by decide +kernel
theorem dX6_freshKinds_24 : decode cX6_freshKinds 24 = .ok (.iconst 1, 1) := by decide +kernel
theorem dX6_freshKinds_25 : decode cX6_freshKinds 25 = .ok (.iload_n 2, 1) := by decide +kernel
theorem dX6_freshKinds_26 : decode cX6_freshKinds 26 = .ok (.ishl, 1) := by decide +kernel
theorem dX6_freshKinds_27 : decode cX6_freshKinds 27 = .ok (.goto 4, 3) := by decide +kernel
theorem dX6_freshKinds_30 : decode cX6_freshKinds 30 = .ok (.iconst 0, 1) := by decide +kernel
theorem dX6_freshKinds_31 : decode cX6_freshKinds 31 = .ok (.ior, 1) := by decide +kernel
theorem dX6_freshKinds_32 : decode cX6_freshKinds 32 = .ok (.istore_n 1, 1) := by decide +kernel
theorem dX6_freshKinds_33 : decode cX6_freshKinds 33 = .ok (.iinc 2 1, 3) := by decide +kernel
theorem dX6_freshKinds_36 : decode cX6_freshKinds 36 = .ok (.goto (-32), 3) := by decide +kernel
theorem dX6_freshKinds_39 : decode cX6_freshKinds 39 = .ok (.iload_n 1, 1) := by decide +kernel
theorem dX6_freshKinds_40 : decode cX6_freshKinds 40 = .ok (.ireturn, 1) := by decide +kernel
def X6_freshKinds_31 (n : Nat) (K4 : Int32 → Int32 → Mm → Option Int32) (x2 : Int32) (s0 : Int32) (s1 : Int32) (h : Mm) : Option Int32 := (K4 (s0 ||| s1) (x2 + (1)) h)
set_option maxRecDepth 100000 in
set_option maxHeartbeats 4000000 in
theorem v_X6_freshKinds_31 {X : WX} {G : GX} {o : Mm} {n : Nat} {K4 : Int32 → Int32 → Mm → Option Int32} {rv : Int32} {h : Mm} (hK4 : ∀ (x1 : Int32) (x2 : Int32), K4 x1 x2 h = some rv → V X G RX6 cX6_freshKinds 3 (some .int) 2 0 0 (QR X G true o (some (.int rv)) h) true o 4 [(0, .ref (xa X 246)), (1, .int x1), (2, .int x2)] [] h) {x2 : Int32} {s0 : Int32} {s1 : Int32} (hF : X6_freshKinds_31 n K4 x2 s0 s1 h = some rv) : V X G RX6 cX6_freshKinds 3 (some .int) 2 0 0 (QR X G true o (some (.int rv)) h) true o 31 [(0, .ref (xa X 246)), (2, .int x2)] [.int s1, .int s0] h := by
  unfold X6_freshKinds_31 at hF
  refine V.ior dX6_freshKinds_31 ?_
  refine V.istore_n [(1, _), (0, _), (2, _)] dX6_freshKinds_32 rfl (by decide) rfl ?_
  refine V.iinc (v := (x2 + (1))) 2 [(2, _), (1, _), (0, _)] dX6_freshKinds_33 rfl rfl (by decide) rfl ?_
  refine V.goto (tgt := 4) dX6_freshKinds_36 rfl ?_
  exact V.sub [2, 1, 0] rfl (hK4 _ _ hF)
def X6_freshKinds_4 (n : Nat) : Nat → Int32 → Int32 → Mm → Option Int32
  | 0, _, _, _ => none
  | f + 1, x1, x2, h => (if (4 : Int32) ≤ x2 then (some x1) else (bp (X11_at 28 x2 h) (fun r9 => (if r9 = 0 then (X6_freshKinds_31 n (X6_freshKinds_4 n f) x2 x1 ((1 : Int32) <<< (x2 &&& 31)) h) else (X6_freshKinds_31 n (X6_freshKinds_4 n f) x2 x1 (0 : Int32) h)))))
set_option maxRecDepth 100000 in
set_option maxHeartbeats 4000000 in
theorem v_X6_freshKinds_4 {X : WX} {G : GX} {o : Mm} {n : Nat} {rv : Int32} {h : Mm} : ∀ (f : Nat) (x1 : Int32) (x2 : Int32), X6_freshKinds_4 n f x1 x2 h = some rv → V X G RX6 cX6_freshKinds 3 (some .int) 2 0 0 (QR X G true o (some (.int rv)) h) true o 4 [(0, .ref (xa X 246)), (1, .int x1), (2, .int x2)] [] h := by
  intro f
  induction f with
  | zero => intro x1 x2 hF; exact nomatch (show (none : Option Int32) = some rv from hF)
  | succ f ih =>
    intro x1 x2 hF
    unfold X6_freshKinds_4 at hF
    refine V.iload_n 2 dX6_freshKinds_4 rfl rfl ?_
    refine V.iconst (v := 4) dX6_freshKinds_5 rfl ?_
    refine V.icmp_ge (tgt := 39) dX6_freshKinds_6 rfl (fun c => ?_) (fun c => ?_)
    · replace hF := ip c hF
      refine V.iload_n 1 dX6_freshKinds_39 rfl rfl ?_
      cases hF
      exact V.iret dX6_freshKinds_40
    · replace hF := iq c hF
      refine V.iload_n 1 dX6_freshKinds_9 rfl rfl ?_
      refine V.aload_n 0 dX6_freshKinds_10 rfl rfl ?_
      refine V.getR (v := 27) fl_X6_34 sh_246 rfl fx_246_3 (by decide) dX6_freshKinds_11 ?_
      refine V.getR (v := 28) fl_X6_45 sh_27 rfl fx_27_0 (by decide) dX6_freshKinds_14 ?_
      refine V.iload_n 2 dX6_freshKinds_17 rfl rfl ?_
      obtain ⟨r9, hc10, hF⟩ := bp_s hF
      refine V.callNi mf_X11_at ml_X6_79 (s_X11_at (Or.inl io_28) hc10) (by decide) rfl rfl (Nat.le_of_ble_eq_true rfl) dX6_freshKinds_18 ?_
      refine V.if_ne (tgt := 30) dX6_freshKinds_21 rfl (fun c => ?_) (fun c => ?_)
      · replace hF := iq c hF
        refine V.iconst (v := 0) dX6_freshKinds_30 rfl ?_
        exact V.sub [0, 2] rfl (v_X6_freshKinds_31 ih hF)
      · replace hF := ip c hF
        refine V.iconst (v := 1) dX6_freshKinds_24 rfl ?_
        refine V.iload_n 2 dX6_freshKinds_25 rfl rfl ?_
        refine V.ishl dX6_freshKinds_26 ?_
        refine V.goto (tgt := 31) dX6_freshKinds_27 rfl ?_
        exact V.sub [0, 2] rfl (v_X6_freshKinds_31 ih hF)
def X6_freshKinds (n : Nat) (h : Mm) : Option Int32 := (X6_freshKinds_4 n n (0 : Int32) (0 : Int32) h)
set_option maxRecDepth 100000 in
set_option maxHeartbeats 4000000 in
theorem s_X6_freshKinds {X : WX} {o : Mm} {n : Nat} {rv : Int32} {h : Mm} (hF : X6_freshKinds n h = some rv) : Sat X yX6_freshKinds cX6_freshKinds 3 (some .int) 2 [.ref (xa X 246)] true o h (some (.int rv)) h := by
  unfold X6_freshKinds at hF
  refine Sat.mk (own := RX6) rfl (by decide +kernel) (Nat.le_of_ble_eq_true rfl) (fun G => ?_)
  refine V.sub (lv2 := [(0, _)]) [0] rfl ?_
  refine V.iconst (v := 0) dX6_freshKinds_0 rfl ?_
  refine V.istore_n [(1, _), (0, _)] dX6_freshKinds_1 rfl (by decide) rfl ?_
  refine V.iconst (v := 0) dX6_freshKinds_2 rfl ?_
  refine V.istore_n [(2, _), (1, _), (0, _)] dX6_freshKinds_3 rfl (by decide) rfl ?_
  exact V.sub [2, 1, 0] rfl (v_X6_freshKinds_4 n _ _ hF)
/-! MonsterCot$Search.openBooks -/
theorem dX6_openBooks_0 : decode cX6_openBooks 0 = .ok (.iconst 0, 1) := by decide +kernel
theorem dX6_openBooks_1 : decode cX6_openBooks 1 = .ok (.istore_n 1, 1) := by decide +kernel
theorem dX6_openBooks_2 : decode cX6_openBooks 2 = .ok (.iconst 0, 1) := by decide +kernel
theorem dX6_openBooks_3 : decode cX6_openBooks 3 = .ok (.istore_n 2, 1) := by decide +kernel
theorem dX6_openBooks_4 : decode cX6_openBooks 4 = .ok (.iload_n 2, 1) := by decide +kernel
theorem dX6_openBooks_5 : decode cX6_openBooks 5 = .ok (.aload_n 0, 1) := by decide +kernel
theorem dX6_openBooks_6 : decode cX6_openBooks 6 = .ok (.getfield 28, 3) := by decide +kernel
theorem dX6_openBooks_9 : decode cX6_openBooks 9 = .ok (.invokevirtual 59, 3) := by decide +kernel
theorem dX6_openBooks_12 : decode cX6_openBooks 12 = .ok (.if_icmp .ge 43, 3) := by decide +kernel
theorem dX6_openBooks_15 : decode cX6_openBooks 15 = .ok (.iload_n 1, 1) := by decide +kernel
theorem dX6_openBooks_16 : decode cX6_openBooks 16 = .ok (.aload_n 0, 1) := by decide +kernel
theorem dX6_openBooks_17 : decode cX6_openBooks 17 = .ok (.getfield 18, 3) := by decide +kernel
theorem dX6_openBooks_20 : decode cX6_openBooks 20 = .ok (.aload_n 0, 1) := by decide +kernel
theorem dX6_openBooks_21 : decode cX6_openBooks 21 = .ok (.getfield 34, 3) := by decide +kernel
theorem dX6_openBooks_24 : decode cX6_openBooks 24 = .ok (.iload_n 2, 1) := by decide +kernel
theorem dX6_openBooks_25 : decode cX6_openBooks 25 = .ok (.aload_n 0, 1) := by decide +kernel
theorem dX6_openBooks_26 : decode cX6_openBooks 26 = .ok (.getfield 28, 3) := by decide +kernel
theorem dX6_openBooks_29 : decode cX6_openBooks 29 = .ok (.iload_n 2, 1) := by decide +kernel
theorem dX6_openBooks_30 : decode cX6_openBooks 30 = .ok (.invokevirtual 95, 3) := by decide +kernel
theorem dX6_openBooks_33 : decode cX6_openBooks 33 = .ok (.iconst 0, 1) := by decide +kernel
theorem dX6_openBooks_34 : decode cX6_openBooks 34 = .ok (.invokevirtual 186, 3) := by decide +kernel
theorem dX6_openBooks_37 : decode cX6_openBooks 37 = .ok (.ifCond .eq 9, 3) := by decide +kernel
theorem dX6_openBooks_40 : decode cX6_openBooks 40 = .ok (.iconst 1, 1) := by decide +kernel
theorem dX6_openBooks_41 : decode cX6_openBooks 41 = .ok (.iload_n 2, 1) := by decide +kernel
theorem dX6_openBooks_42 : decode cX6_openBooks 42 = .ok (.ishl, 1) := by decide +kernel
theorem dX6_openBooks_43 : decode cX6_openBooks 43 = .ok (.goto 4, 3) := by decide +kernel
theorem dX6_openBooks_46 : decode cX6_openBooks 46 = .ok (.iconst 0, 1) := by decide +kernel
theorem dX6_openBooks_47 : decode cX6_openBooks 47 = .ok (.ior, 1) := by decide +kernel
theorem dX6_openBooks_48 : decode cX6_openBooks 48 = .ok (.istore_n 1, 1) := by decide +kernel
theorem dX6_openBooks_49 : decode cX6_openBooks 49 = .ok (.iinc 2 1, 3) := by decide +kernel
theorem dX6_openBooks_52 : decode cX6_openBooks 52 = .ok (.goto (-48), 3) := by decide +kernel
theorem dX6_openBooks_55 : decode cX6_openBooks 55 = .ok (.iload_n 1, 1) := by decide +kernel
theorem dX6_openBooks_56 : decode cX6_openBooks 56 = .ok (.ireturn, 1) := by decide +kernel
def X6_openBooks_47 (n : Nat) (K4 : Int32 → Int32 → Mm → Option Int32) (x2 : Int32) (s0 : Int32) (s1 : Int32) (h : Mm) : Option Int32 := (K4 (s0 ||| s1) (x2 + (1)) h)
set_option maxRecDepth 100000 in
set_option maxHeartbeats 4000000 in
theorem v_X6_openBooks_47 {X : WX} {G : GX} {o : Mm} {n : Nat} {K4 : Int32 → Int32 → Mm → Option Int32} {rv : Int32} {h : Mm} (hK4 : ∀ (x1 : Int32) (x2 : Int32), K4 x1 x2 h = some rv → V X G RX6 cX6_openBooks 3 (some .int) 6 0 0 (QR X G true o (some (.int rv)) h) true o 4 [(0, .ref (xa X 246)), (1, .int x1), (2, .int x2)] [] h) {x2 : Int32} {s0 : Int32} {s1 : Int32} (hF : X6_openBooks_47 n K4 x2 s0 s1 h = some rv) : V X G RX6 cX6_openBooks 3 (some .int) 6 0 0 (QR X G true o (some (.int rv)) h) true o 47 [(0, .ref (xa X 246)), (2, .int x2)] [.int s1, .int s0] h := by
  unfold X6_openBooks_47 at hF
  refine V.ior dX6_openBooks_47 ?_
  refine V.istore_n [(1, _), (0, _), (2, _)] dX6_openBooks_48 rfl (by decide) rfl ?_
  refine V.iinc (v := (x2 + (1))) 2 [(2, _), (1, _), (0, _)] dX6_openBooks_49 rfl rfl (by decide) rfl ?_
  refine V.goto (tgt := 4) dX6_openBooks_52 rfl ?_
  exact V.sub [2, 1, 0] rfl (hK4 _ _ hF)
def X6_openBooks_4 (n : Nat) : Nat → Int32 → Int32 → Mm → Option Int32
  | 0, _, _, _ => none
  | f + 1, x1, x2, h => (bp (X1_books 13 h) (fun r25 => (if r25 ≤ x2 then (some x1) else (bp (X1_pagesOf 13 x2 h) (fun r27 => (bp (X9_canRead 27 x2 r27 false h) (fun r29 => (if r29 = true then (X6_openBooks_47 n (X6_openBooks_4 n f) x2 x1 ((1 : Int32) <<< (x2 &&& 31)) h) else (X6_openBooks_47 n (X6_openBooks_4 n f) x2 x1 (0 : Int32) h)))))))))
set_option maxRecDepth 100000 in
set_option maxHeartbeats 4000000 in
theorem v_X6_openBooks_4 {X : WX} {G : GX} {o : Mm} {n : Nat} {rv : Int32} {h : Mm} : ∀ (f : Nat) (x1 : Int32) (x2 : Int32), X6_openBooks_4 n f x1 x2 h = some rv → V X G RX6 cX6_openBooks 3 (some .int) 6 0 0 (QR X G true o (some (.int rv)) h) true o 4 [(0, .ref (xa X 246)), (1, .int x1), (2, .int x2)] [] h := by
  intro f
  induction f with
  | zero => intro x1 x2 hF; exact nomatch (show (none : Option Int32) = some rv from hF)
  | succ f ih =>
    intro x1 x2 hF
    unfold X6_openBooks_4 at hF
    refine V.iload_n 2 dX6_openBooks_4 rfl rfl ?_
    refine V.aload_n 0 dX6_openBooks_5 rfl rfl ?_
    refine V.getR (v := 13) fl_X6_28 sh_246 rfl fx_246_1 (by decide) dX6_openBooks_6 ?_
    obtain ⟨r25, hc26, hF⟩ := bp_s hF
    refine V.callVi mf_X1_books ml_X6_59 sh_13 (s_X1_books (Or.inr rfl) hc26) (by decide) rfl rfl (Nat.le_of_ble_eq_true rfl) dX6_openBooks_9 ?_
    refine V.icmp_ge (tgt := 55) dX6_openBooks_12 rfl (fun c => ?_) (fun c => ?_)
    · replace hF := ip c hF
      refine V.iload_n 1 dX6_openBooks_55 rfl rfl ?_
      cases hF
      exact V.iret dX6_openBooks_56
    · replace hF := iq c hF
      refine V.iload_n 1 dX6_openBooks_15 rfl rfl ?_
      refine V.aload_n 0 dX6_openBooks_16 rfl rfl ?_
      refine V.getR (v := 26) fl_X6_18 sh_246 rfl fx_246_0 (by decide) dX6_openBooks_17 ?_
      refine V.aload_n 0 dX6_openBooks_20 rfl rfl ?_
      refine V.getR (v := 27) fl_X6_34 sh_246 rfl fx_246_3 (by decide) dX6_openBooks_21 ?_
      refine V.iload_n 2 dX6_openBooks_24 rfl rfl ?_
      refine V.aload_n 0 dX6_openBooks_25 rfl rfl ?_
      refine V.getR (v := 13) fl_X6_28 sh_246 rfl fx_246_1 (by decide) dX6_openBooks_26 ?_
      refine V.iload_n 2 dX6_openBooks_29 rfl rfl ?_
      obtain ⟨r27, hc28, hF⟩ := bp_s hF
      refine V.callVi mf_X1_pagesOf ml_X6_95 sh_13 (s_X1_pagesOf (Or.inr rfl) hc28) (by decide) rfl rfl (Nat.le_of_ble_eq_true rfl) dX6_openBooks_30 ?_
      refine V.iconst (v := 0) dX6_openBooks_33 rfl ?_
      obtain ⟨r29, hc30, hF⟩ := bp_s hF
      refine V.callVi mf_X9_canRead ml_X6_186 sh_26 (s_X9_canRead isb_27 hc30) (by decide) rfl rfl (Nat.le_of_ble_eq_true rfl) dX6_openBooks_34 ?_
      refine V.ifz_eq (tgt := 46) dX6_openBooks_37 rfl (fun c => ?_) (fun c => ?_)
      · replace hF := iq c hF
        refine V.iconst (v := 0) dX6_openBooks_46 rfl ?_
        exact V.sub [0, 2] rfl (v_X6_openBooks_47 ih hF)
      · replace hF := ip c hF
        refine V.iconst (v := 1) dX6_openBooks_40 rfl ?_
        refine V.iload_n 2 dX6_openBooks_41 rfl rfl ?_
        refine V.ishl dX6_openBooks_42 ?_
        refine V.goto (tgt := 47) dX6_openBooks_43 rfl ?_
        exact V.sub [0, 2] rfl (v_X6_openBooks_47 ih hF)
def X6_openBooks (n : Nat) (h : Mm) : Option Int32 := (X6_openBooks_4 n n (0 : Int32) (0 : Int32) h)
set_option maxRecDepth 100000 in
set_option maxHeartbeats 4000000 in
theorem s_X6_openBooks {X : WX} {o : Mm} {n : Nat} {rv : Int32} {h : Mm} (hF : X6_openBooks n h = some rv) : Sat X yX6_openBooks cX6_openBooks 3 (some .int) 6 [.ref (xa X 246)] true o h (some (.int rv)) h := by
  unfold X6_openBooks at hF
  refine Sat.mk (own := RX6) rfl (by decide +kernel) (Nat.le_of_ble_eq_true rfl) (fun G => ?_)
  refine V.sub (lv2 := [(0, _)]) [0] rfl ?_
  refine V.iconst (v := 0) dX6_openBooks_0 rfl ?_
  refine V.istore_n [(1, _), (0, _)] dX6_openBooks_1 rfl (by decide) rfl ?_
  refine V.iconst (v := 0) dX6_openBooks_2 rfl ?_
  refine V.istore_n [(2, _), (1, _), (0, _)] dX6_openBooks_3 rfl (by decide) rfl ?_
  exact V.sub [2, 1, 0] rfl (v_X6_openBooks_4 n _ _ hF)
/-! MonsterCot.all -/
theorem dX11_all_0 : decode cX11_all 0 = .ok (.aload_n 0, 1) := by decide +kernel
theorem dX11_all_1 : decode cX11_all 1 = .ok (.getfield 42, 3) := by decide +kernel
theorem dX11_all_4 : decode cX11_all 4 = .ok (.invokevirtual 124, 3) := by decide +kernel
theorem dX11_all_7 : decode cX11_all 7 = .ok (.ifCond .ne 5, 3) := by decide +kernel
theorem dX11_all_10 : decode cX11_all 10 = .ok (.iconst (-1), 1) := by decide +kernel
theorem dX11_all_11 : decode cX11_all 11 = .ok (.ireturn, 1) := by decide +kernel
theorem dX11_all_12 : decode cX11_all 12 = .ok (.iload_n 1, 1) := by decide +kernel
theorem dX11_all_13 : decode cX11_all 13 = .ok (.tableswitch 126 0 7 #[47, 55, 78, 86, 94, 102, 110, 118], 47) := by decide +kernel
theorem dX11_all_60 : decode cX11_all 60 = .ok (.aload_n 0, 1) := by decide +kernel
theorem dX11_all_61 : decode cX11_all 61 = .ok (.getfield 84, 3) := by decide +kernel
theorem dX11_all_64 : decode cX11_all 64 = .ok (.invokevirtual 352, 3) := by decide +kernel
theorem dX11_all_67 : decode cX11_all 67 = .ok (.ireturn, 1) := by decide +kernel
theorem dX11_all_68 : decode cX11_all 68 = .ok (.aload_n 0, 1) := by decide +kernel
theorem dX11_all_69 : decode cX11_all 69 = .ok (.getfield 65, 3) := by decide +kernel
theorem dX11_all_72 : decode cX11_all 72 = .ok (.getfield 128, 3) := by decide +kernel
theorem dX11_all_75 : decode cX11_all 75 = .ok (.aload_n 0, 1) := by decide +kernel
theorem dX11_all_76 : decode cX11_all 76 = .ok (.getfield 42, 3) := by decide +kernel
theorem dX11_all_79 : decode cX11_all 79 = .ok (.invokevirtual 131, 3) := by decide +kernel
theorem dX11_all_82 : decode cX11_all 82 = .ok (.if_icmp .lt 7, 3) := by decide +kernel
theorem dX11_all_85 : decode cX11_all 85 = .ok (.iconst 1, 1) := by decide +kernel
theorem dX11_all_86 : decode cX11_all 86 = .ok (.goto 4, 3) := by decide +kernel
theorem dX11_all_89 : decode cX11_all 89 = .ok (.iconst 0, 1) := by decide +kernel
theorem dX11_all_90 : decode cX11_all 90 = .ok (.ireturn, 1) := by decide +kernel
theorem dX11_all_91 : decode cX11_all 91 = .ok (.aload_n 0, 1) := by decide +kernel
theorem dX11_all_92 : decode cX11_all 92 = .ok (.getfield 84, 3) := by decide +kernel
theorem dX11_all_95 : decode cX11_all 95 = .ok (.invokevirtual 355, 3) := by decide +kernel
theorem dX11_all_98 : decode cX11_all 98 = .ok (.ireturn, 1) := by decide +kernel
theorem dX11_all_99 : decode cX11_all 99 = .ok (.aload_n 0, 1) := by decide +kernel
theorem dX11_all_100 : decode cX11_all 100 = .ok (.getfield 84, 3) := by decide +kernel
theorem dX11_all_103 : decode cX11_all 103 = .ok (.invokevirtual 358, 3) := by decide +kernel
theorem dX11_all_106 : decode cX11_all 106 = .ok (.ireturn, 1) := by decide +kernel
theorem dX11_all_107 : decode cX11_all 107 = .ok (.aload_n 0, 1) := by decide +kernel
theorem dX11_all_108 : decode cX11_all 108 = .ok (.getfield 84, 3) := by decide +kernel
theorem dX11_all_111 : decode cX11_all 111 = .ok (.invokevirtual 361, 3) := by decide +kernel
theorem dX11_all_114 : decode cX11_all 114 = .ok (.ireturn, 1) := by decide +kernel
theorem dX11_all_115 : decode cX11_all 115 = .ok (.aload_n 0, 1) := by decide +kernel
theorem dX11_all_116 : decode cX11_all 116 = .ok (.getfield 84, 3) := by decide +kernel
theorem dX11_all_119 : decode cX11_all 119 = .ok (.invokevirtual 364, 3) := by decide +kernel
theorem dX11_all_122 : decode cX11_all 122 = .ok (.ireturn, 1) := by decide +kernel
theorem dX11_all_123 : decode cX11_all 123 = .ok (.aload_n 0, 1) := by decide +kernel
theorem dX11_all_124 : decode cX11_all 124 = .ok (.getfield 84, 3) := by decide +kernel
theorem dX11_all_127 : decode cX11_all 127 = .ok (.invokevirtual 367, 3) := by decide +kernel
theorem dX11_all_130 : decode cX11_all 130 = .ok (.ireturn, 1) := by decide +kernel
theorem dX11_all_131 : decode cX11_all 131 = .ok (.aload_n 0, 1) := by decide +kernel
theorem dX11_all_132 : decode cX11_all 132 = .ok (.getfield 84, 3) := by decide +kernel
theorem dX11_all_135 : decode cX11_all 135 = .ok (.invokevirtual 370, 3) := by decide +kernel
theorem dX11_all_138 : decode cX11_all 138 = .ok (.ireturn, 1) := by decide +kernel
theorem dX11_all_139 : decode cX11_all 139 = .ok (.iconst (-1), 1) := by decide +kernel
theorem dX11_all_140 : decode cX11_all 140 = .ok (.ireturn, 1) := by decide +kernel
def X11_all (n : Nat) (x1 : Int32) (h : Mm) : Option Int32 := (bp (X1_stands 13 h) (fun r19 => (if r19 = true then (if x1 = 0 then (bp (X6_fairest n h) (fun r21 => (some r21))) else (if x1 = 1 then (bp (X1_enough 13 h) (fun r23 => (if (h.1 27 4) < r23 then (some (0 : Int32)) else (some (1 : Int32))))) else (if x1 = 2 then (bp (X6_strongest n h) (fun r25 => (some r25))) else (if x1 = 3 then (bp (X6_loudest n h) (fun r27 => (some r27))) else (if x1 = 4 then (bp (X6_fullest n h) (fun r29 => (some r29))) else (if x1 = 5 then (bp (X6_longest n h) (fun r31 => (some r31))) else (if x1 = 6 then (bp (X6_freshKinds n h) (fun r33 => (some r33))) else (if x1 = 7 then (bp (X6_openBooks n h) (fun r35 => (some r35))) else (some (-1 : Int32)))))))))) else (some (-1 : Int32)))))
set_option maxRecDepth 100000 in
set_option maxHeartbeats 4000000 in
theorem s_X11_all {X : WX} {o : Mm} {n : Nat} {x1 : Int32} {rv : Int32} {h : Mm} (hF : X11_all n x1 h = some rv) : Sat X yX11_all cX11_all 2 (some .int) 7 [.ref (xa X 0), .int x1] true o h (some (.int rv)) h := by
  unfold X11_all at hF
  refine Sat.mk (own := RX11) rfl (by decide +kernel) (Nat.le_of_ble_eq_true rfl) (fun G => ?_)
  refine V.sub (lv2 := [(0, _), (1, _)]) [0, 1] rfl ?_
  refine V.aload_n 0 dX11_all_0 rfl rfl ?_
  refine V.getR (v := 13) fl_X11_42 sh_0 rfl fx_0_4 (by decide) dX11_all_1 ?_
  obtain ⟨r19, hc20, hF⟩ := bp_s hF
  refine V.callVi mf_X1_stands ml_X11_124 sh_13 (s_X1_stands (Or.inr rfl) hc20) (by decide) rfl rfl (Nat.le_of_ble_eq_true rfl) dX11_all_4 ?_
  refine V.ifz_ne (tgt := 12) dX11_all_7 rfl (fun c => ?_) (fun c => ?_)
  · replace hF := ip c hF
    refine V.iload_n 1 dX11_all_12 rfl rfl ?_
    by_cases c0 : x1 = 0
    · replace hF := ip c0 hF
      refine V.tswIn (tgt := 60) c0 dX11_all_13 (by decide) (by decide) rfl rfl ?_
      refine V.aload_n 0 dX11_all_60 rfl rfl ?_
      refine V.getR (v := 246) fl_X11_84 sh_0 rfl fx_0_10 (by decide) dX11_all_61 ?_
      obtain ⟨r21, hc22, hF⟩ := bp_s hF
      refine V.callVi mf_X6_fairest ml_X11_352 sh_246 (s_X6_fairest hc22) (by decide) rfl rfl (Nat.le_of_ble_eq_true rfl) dX11_all_64 ?_
      cases hF
      exact V.iret dX11_all_67
    replace hF := iq c0 hF
    by_cases c1 : x1 = 1
    · replace hF := ip c1 hF
      refine V.tswIn (tgt := 68) c1 dX11_all_13 (by decide) (by decide) rfl rfl ?_
      refine V.aload_n 0 dX11_all_68 rfl rfl ?_
      refine V.getR (v := 27) fl_X11_65 sh_0 rfl fx_0_7 (by decide) dX11_all_69 ?_
      refine V.getI fl_X11_128 sh_27 rfl km_27 dX11_all_72 ?_
      refine V.aload_n 0 dX11_all_75 rfl rfl ?_
      refine V.getR (v := 13) fl_X11_42 sh_0 rfl fx_0_4 (by decide) dX11_all_76 ?_
      obtain ⟨r23, hc24, hF⟩ := bp_s hF
      refine V.callVi mf_X1_enough ml_X11_131 sh_13 (s_X1_enough (Or.inr rfl) hc24) (by decide) rfl rfl (Nat.le_of_ble_eq_true rfl) dX11_all_79 ?_
      refine V.icmp_lt (tgt := 89) dX11_all_82 rfl (fun c => ?_) (fun c => ?_)
      · replace hF := ip c hF
        refine V.iconst (v := 0) dX11_all_89 rfl ?_
        cases hF
        exact V.iret dX11_all_90
      · replace hF := iq c hF
        refine V.iconst (v := 1) dX11_all_85 rfl ?_
        refine V.goto (tgt := 90) dX11_all_86 rfl ?_
        cases hF
        exact V.iret dX11_all_90
    replace hF := iq c1 hF
    by_cases c2 : x1 = 2
    · replace hF := ip c2 hF
      refine V.tswIn (tgt := 91) c2 dX11_all_13 (by decide) (by decide) rfl rfl ?_
      refine V.aload_n 0 dX11_all_91 rfl rfl ?_
      refine V.getR (v := 246) fl_X11_84 sh_0 rfl fx_0_10 (by decide) dX11_all_92 ?_
      obtain ⟨r25, hc26, hF⟩ := bp_s hF
      refine V.callVi mf_X6_strongest ml_X11_355 sh_246 (s_X6_strongest hc26) (by decide) rfl rfl (Nat.le_of_ble_eq_true rfl) dX11_all_95 ?_
      cases hF
      exact V.iret dX11_all_98
    replace hF := iq c2 hF
    by_cases c3 : x1 = 3
    · replace hF := ip c3 hF
      refine V.tswIn (tgt := 99) c3 dX11_all_13 (by decide) (by decide) rfl rfl ?_
      refine V.aload_n 0 dX11_all_99 rfl rfl ?_
      refine V.getR (v := 246) fl_X11_84 sh_0 rfl fx_0_10 (by decide) dX11_all_100 ?_
      obtain ⟨r27, hc28, hF⟩ := bp_s hF
      refine V.callVi mf_X6_loudest ml_X11_358 sh_246 (s_X6_loudest hc28) (by decide) rfl rfl (Nat.le_of_ble_eq_true rfl) dX11_all_103 ?_
      cases hF
      exact V.iret dX11_all_106
    replace hF := iq c3 hF
    by_cases c4 : x1 = 4
    · replace hF := ip c4 hF
      refine V.tswIn (tgt := 107) c4 dX11_all_13 (by decide) (by decide) rfl rfl ?_
      refine V.aload_n 0 dX11_all_107 rfl rfl ?_
      refine V.getR (v := 246) fl_X11_84 sh_0 rfl fx_0_10 (by decide) dX11_all_108 ?_
      obtain ⟨r29, hc30, hF⟩ := bp_s hF
      refine V.callVi mf_X6_fullest ml_X11_361 sh_246 (s_X6_fullest hc30) (by decide) rfl rfl (Nat.le_of_ble_eq_true rfl) dX11_all_111 ?_
      cases hF
      exact V.iret dX11_all_114
    replace hF := iq c4 hF
    by_cases c5 : x1 = 5
    · replace hF := ip c5 hF
      refine V.tswIn (tgt := 115) c5 dX11_all_13 (by decide) (by decide) rfl rfl ?_
      refine V.aload_n 0 dX11_all_115 rfl rfl ?_
      refine V.getR (v := 246) fl_X11_84 sh_0 rfl fx_0_10 (by decide) dX11_all_116 ?_
      obtain ⟨r31, hc32, hF⟩ := bp_s hF
      refine V.callVi mf_X6_longest ml_X11_364 sh_246 (s_X6_longest hc32) (by decide) rfl rfl (Nat.le_of_ble_eq_true rfl) dX11_all_119 ?_
      cases hF
      exact V.iret dX11_all_122
    replace hF := iq c5 hF
    by_cases c6 : x1 = 6
    · replace hF := ip c6 hF
      refine V.tswIn (tgt := 123) c6 dX11_all_13 (by decide) (by decide) rfl rfl ?_
      refine V.aload_n 0 dX11_all_123 rfl rfl ?_
      refine V.getR (v := 246) fl_X11_84 sh_0 rfl fx_0_10 (by decide) dX11_all_124 ?_
      obtain ⟨r33, hc34, hF⟩ := bp_s hF
      refine V.callVi mf_X6_freshKinds ml_X11_367 sh_246 (s_X6_freshKinds hc34) (by decide) rfl rfl (Nat.le_of_ble_eq_true rfl) dX11_all_127 ?_
      cases hF
      exact V.iret dX11_all_130
    replace hF := iq c6 hF
    by_cases c7 : x1 = 7
    · replace hF := ip c7 hF
      refine V.tswIn (tgt := 131) c7 dX11_all_13 (by decide) (by decide) rfl rfl ?_
      refine V.aload_n 0 dX11_all_131 rfl rfl ?_
      refine V.getR (v := 246) fl_X11_84 sh_0 rfl fx_0_10 (by decide) dX11_all_132 ?_
      obtain ⟨r35, hc36, hF⟩ := bp_s hF
      refine V.callVi mf_X6_openBooks ml_X11_370 sh_246 (s_X6_openBooks hc36) (by decide) rfl rfl (Nat.le_of_ble_eq_true rfl) dX11_all_135 ?_
      cases hF
      exact V.iret dX11_all_138
    replace hF := iq c7 hF
    refine V.tswOut (tgt := 139) dX11_all_13 (tsw_out (by decide) (by decide) [0, 1, 2, 3, 4, 5, 6, 7] rfl (fun v hv => ?_)) rfl ?_
    · simp only [List.mem_cons, List.not_mem_nil, or_false] at hv
      rcases hv with rfl | rfl | rfl | rfl | rfl | rfl | rfl | rfl <;> assumption
    refine V.iconst (v := -1) dX11_all_139 rfl ?_
    cases hF
    exact V.iret dX11_all_140
  · replace hF := iq c hF
    refine V.iconst (v := -1) dX11_all_10 rfl ?_
    cases hF
    exact V.iret dX11_all_11
/-! MonsterCot.pages -/
theorem dX11_pages_0 : decode cX11_pages 0 = .ok (.aload_n 0, 1) := by decide +kernel
theorem dX11_pages_1 : decode cX11_pages 1 = .ok (.getfield 42, 3) := by decide +kernel
theorem dX11_pages_4 : decode cX11_pages 4 = .ok (.invokevirtual 124, 3) := by decide +kernel
theorem dX11_pages_7 : decode cX11_pages 7 = .ok (.ifCond .eq 10, 3) := by decide +kernel
theorem dX11_pages_10 : decode cX11_pages 10 = .ok (.iload_n 1, 1) := by decide +kernel
theorem dX11_pages_11 : decode cX11_pages 11 = .ok (.invokestatic 183, 3) := by decide +kernel
theorem dX11_pages_14 : decode cX11_pages 14 = .ok (.ifCond .ne 5, 3) := by decide +kernel
theorem dX11_pages_17 : decode cX11_pages 17 = .ok (.iconst (-1), 1) := by decide +kernel
theorem dX11_pages_18 : decode cX11_pages 18 = .ok (.ireturn, 1) := by decide +kernel
theorem dX11_pages_19 : decode cX11_pages 19 = .ok (.iconst 0, 1) := by decide +kernel
theorem dX11_pages_20 : decode cX11_pages 20 = .ok (.istore_n 2, 1) := by decide +kernel
theorem dX11_pages_21 : decode cX11_pages 21 = .ok (.iconst 0, 1) := by decide +kernel
theorem dX11_pages_22 : decode cX11_pages 22 = .ok (.istore_n 3, 1) := by decide +kernel
theorem dX11_pages_23 : decode cX11_pages 23 = .ok (.iload_n 3, 1) := by decide +kernel
theorem dX11_pages_24 : decode cX11_pages 24 = .ok (.aload_n 0, 1) := by decide +kernel
theorem dX11_pages_25 : decode cX11_pages 25 = .ok (.getfield 42, 3) := by decide +kernel
theorem dX11_pages_28 : decode cX11_pages 28 = .ok (.invokevirtual 309, 3) := by decide +kernel
theorem dX11_pages_31 : decode cX11_pages 31 = .ok (.if_icmp .ge 36, 3) := by decide +kernel
theorem dX11_pages_34 : decode cX11_pages 34 = .ok (.iload_n 2, 1) := by decide +kernel
theorem dX11_pages_35 : decode cX11_pages 35 = .ok (.aload_n 0, 1) := by decide +kernel
theorem dX11_pages_36 : decode cX11_pages 36 = .ok (.getfield 42, 3) := by decide +kernel
theorem dX11_pages_39 : decode cX11_pages 39 = .ok (.iload_n 3, 1) := by decide +kernel
theorem dX11_pages_40 : decode cX11_pages 40 = .ok (.invokevirtual 147, 3) := by decide +kernel
theorem dX11_pages_43 : decode cX11_pages 43 = .ok (.iload_n 1, 1) := by decide +kernel
theorem dX11_pages_44 : decode cX11_pages 44 = .ok (.if_icmp .ne 14, 3) := by decide +kernel
theorem dX11_pages_47 : decode cX11_pages 47 = .ok (.aload_n 0, 1) := by decide +kernel
theorem dX11_pages_48 : decode cX11_pages 48 = .ok (.getfield 42, 3) := by decide +kernel
theorem dX11_pages_51 : decode cX11_pages 51 = .ok (.iload_n 3, 1) := by decide +kernel
theorem dX11_pages_52 : decode cX11_pages 52 = .ok (.invokevirtual 140, 3) := by decide +kernel
theorem dX11_pages_55 : decode cX11_pages 55 = .ok (.goto 4, 3) := by decide +kernel
theorem dX11_pages_58 : decode cX11_pages 58 = .ok (.iconst 0, 1) := by decide +kernel
theorem dX11_pages_59 : decode cX11_pages 59 = .ok (.iadd, 1) := by decide +kernel
theorem dX11_pages_60 : decode cX11_pages 60 = .ok (.istore_n 2, 1) := by decide +kernel
theorem dX11_pages_61 : decode cX11_pages 61 = .ok (.iinc 3 1, 3) := by decide +kernel
theorem dX11_pages_64 : decode cX11_pages 64 = .ok (.goto (-41), 3) := by decide +kernel
theorem dX11_pages_67 : decode cX11_pages 67 = .ok (.iload_n 2, 1) := by decide +kernel
theorem dX11_pages_68 : decode cX11_pages 68 = .ok (.ireturn, 1) := by decide +kernel
def X11_pages_59 (n : Nat) (K23 : Int32 → Int32 → Int32 → Mm → Option Int32) (x1 : Int32) (x3 : Int32) (s0 : Int32) (s1 : Int32) (h : Mm) : Option Int32 := (K23 x1 (s0 + s1) (x3 + (1)) h)
set_option maxRecDepth 100000 in
set_option maxHeartbeats 4000000 in
theorem v_X11_pages_59 {X : WX} {G : GX} {o : Mm} {n : Nat} {K23 : Int32 → Int32 → Int32 → Mm → Option Int32} {rv : Int32} {h : Mm} (hK23 : ∀ (x1 : Int32) (x2 : Int32) (x3 : Int32), K23 x1 x2 x3 h = some rv → V X G RX11 cX11_pages 4 (some .int) 4 0 0 (QR X G true o (some (.int rv)) h) true o 23 [(0, .ref (xa X 0)), (1, .int x1), (2, .int x2), (3, .int x3)] [] h) {x1 : Int32} {x3 : Int32} {s0 : Int32} {s1 : Int32} (hF : X11_pages_59 n K23 x1 x3 s0 s1 h = some rv) : V X G RX11 cX11_pages 4 (some .int) 4 0 0 (QR X G true o (some (.int rv)) h) true o 59 [(0, .ref (xa X 0)), (1, .int x1), (3, .int x3)] [.int s1, .int s0] h := by
  unfold X11_pages_59 at hF
  refine V.iadd dX11_pages_59 ?_
  refine V.istore_n [(2, _), (0, _), (1, _), (3, _)] dX11_pages_60 rfl (by decide) rfl ?_
  refine V.iinc (v := (x3 + (1))) 3 [(3, _), (2, _), (0, _), (1, _)] dX11_pages_61 rfl rfl (by decide) rfl ?_
  refine V.goto (tgt := 23) dX11_pages_64 rfl ?_
  exact V.sub [2, 3, 1, 0] rfl (hK23 _ _ _ hF)
def X11_pages_23 (n : Nat) : Nat → Int32 → Int32 → Int32 → Mm → Option Int32
  | 0, _, _, _, _ => none
  | f + 1, x1, x2, x3, h => (bp (X1_books 13 h) (fun r41 => (if r41 ≤ x3 then (some x2) else (bp (X1_kindOf 13 x3 h) (fun r43 => (if r43 = x1 then (bp (X1_pagesOf 13 x3 h) (fun r45 => (X11_pages_59 n (X11_pages_23 n f) x1 x3 x2 r45 h))) else (X11_pages_59 n (X11_pages_23 n f) x1 x3 x2 (0 : Int32) h)))))))
set_option maxRecDepth 100000 in
set_option maxHeartbeats 4000000 in
theorem v_X11_pages_23 {X : WX} {G : GX} {o : Mm} {n : Nat} {rv : Int32} {h : Mm} : ∀ (f : Nat) (x1 : Int32) (x2 : Int32) (x3 : Int32), X11_pages_23 n f x1 x2 x3 h = some rv → V X G RX11 cX11_pages 4 (some .int) 4 0 0 (QR X G true o (some (.int rv)) h) true o 23 [(0, .ref (xa X 0)), (1, .int x1), (2, .int x2), (3, .int x3)] [] h := by
  intro f
  induction f with
  | zero => intro x1 x2 x3 hF; exact nomatch (show (none : Option Int32) = some rv from hF)
  | succ f ih =>
    intro x1 x2 x3 hF
    unfold X11_pages_23 at hF
    refine V.iload_n 3 dX11_pages_23 rfl rfl ?_
    refine V.aload_n 0 dX11_pages_24 rfl rfl ?_
    refine V.getR (v := 13) fl_X11_42 sh_0 rfl fx_0_4 (by decide) dX11_pages_25 ?_
    obtain ⟨r41, hc42, hF⟩ := bp_s hF
    refine V.callVi mf_X1_books ml_X11_309 sh_13 (s_X1_books (Or.inr rfl) hc42) (by decide) rfl rfl (Nat.le_of_ble_eq_true rfl) dX11_pages_28 ?_
    refine V.icmp_ge (tgt := 67) dX11_pages_31 rfl (fun c => ?_) (fun c => ?_)
    · replace hF := ip c hF
      refine V.iload_n 2 dX11_pages_67 rfl rfl ?_
      cases hF
      exact V.iret dX11_pages_68
    · replace hF := iq c hF
      refine V.iload_n 2 dX11_pages_34 rfl rfl ?_
      refine V.aload_n 0 dX11_pages_35 rfl rfl ?_
      refine V.getR (v := 13) fl_X11_42 sh_0 rfl fx_0_4 (by decide) dX11_pages_36 ?_
      refine V.iload_n 3 dX11_pages_39 rfl rfl ?_
      obtain ⟨r43, hc44, hF⟩ := bp_s hF
      refine V.callVi mf_X1_kindOf ml_X11_147 sh_13 (s_X1_kindOf (Or.inr rfl) hc44) (by decide) rfl rfl (Nat.le_of_ble_eq_true rfl) dX11_pages_40 ?_
      refine V.iload_n 1 dX11_pages_43 rfl rfl ?_
      refine V.icmp_ne (tgt := 58) dX11_pages_44 rfl (fun c => ?_) (fun c => ?_)
      · replace hF := iq c hF
        refine V.iconst (v := 0) dX11_pages_58 rfl ?_
        exact V.sub [0, 1, 3] rfl (v_X11_pages_59 ih hF)
      · replace hF := ip c hF
        refine V.aload_n 0 dX11_pages_47 rfl rfl ?_
        refine V.getR (v := 13) fl_X11_42 sh_0 rfl fx_0_4 (by decide) dX11_pages_48 ?_
        refine V.iload_n 3 dX11_pages_51 rfl rfl ?_
        obtain ⟨r45, hc46, hF⟩ := bp_s hF
        refine V.callVi mf_X1_pagesOf ml_X11_140 sh_13 (s_X1_pagesOf (Or.inr rfl) hc46) (by decide) rfl rfl (Nat.le_of_ble_eq_true rfl) dX11_pages_52 ?_
        refine V.goto (tgt := 59) dX11_pages_55 rfl ?_
        exact V.sub [0, 1, 3] rfl (v_X11_pages_59 ih hF)
def X11_pages (n : Nat) (x1 : Int32) (h : Mm) : Option Int32 := (bp (X1_stands 13 h) (fun r47 => (if r47 = true then (bp (X11_isKind x1 h) (fun r49 => (if r49 = true then (X11_pages_23 n n x1 (0 : Int32) (0 : Int32) h) else (some (-1 : Int32))))) else (some (-1 : Int32)))))
set_option maxRecDepth 100000 in
set_option maxHeartbeats 4000000 in
theorem s_X11_pages {X : WX} {o : Mm} {n : Nat} {x1 : Int32} {rv : Int32} {h : Mm} (hF : X11_pages n x1 h = some rv) : Sat X yX11_pages cX11_pages 4 (some .int) 4 [.ref (xa X 0), .int x1] true o h (some (.int rv)) h := by
  unfold X11_pages at hF
  refine Sat.mk (own := RX11) rfl (by decide +kernel) (Nat.le_of_ble_eq_true rfl) (fun G => ?_)
  refine V.sub (lv2 := [(0, _), (1, _)]) [0, 1] rfl ?_
  refine V.aload_n 0 dX11_pages_0 rfl rfl ?_
  refine V.getR (v := 13) fl_X11_42 sh_0 rfl fx_0_4 (by decide) dX11_pages_1 ?_
  obtain ⟨r47, hc48, hF⟩ := bp_s hF
  refine V.callVi mf_X1_stands ml_X11_124 sh_13 (s_X1_stands (Or.inr rfl) hc48) (by decide) rfl rfl (Nat.le_of_ble_eq_true rfl) dX11_pages_4 ?_
  refine V.ifz_eq (tgt := 17) dX11_pages_7 rfl (fun c => ?_) (fun c => ?_)
  · replace hF := iq c hF
    refine V.iconst (v := -1) dX11_pages_17 rfl ?_
    cases hF
    exact V.iret dX11_pages_18
  · replace hF := ip c hF
    refine V.iload_n 1 dX11_pages_10 rfl rfl ?_
    obtain ⟨r49, hc50, hF⟩ := bp_s hF
    refine V.callSi mf_X11_isKind ml_X11_183 (s_X11_isKind hc50) (by decide) rfl rfl (Nat.le_of_ble_eq_true rfl) dX11_pages_11 ?_
    refine V.ifz_ne (tgt := 19) dX11_pages_14 rfl (fun c => ?_) (fun c => ?_)
    · replace hF := ip c hF
      refine V.iconst (v := 0) dX11_pages_19 rfl ?_
      refine V.istore_n [(2, _), (0, _), (1, _)] dX11_pages_20 rfl (by decide) rfl ?_
      refine V.iconst (v := 0) dX11_pages_21 rfl ?_
      refine V.istore_n [(3, _), (2, _), (0, _), (1, _)] dX11_pages_22 rfl (by decide) rfl ?_
      exact V.sub [2, 3, 1, 0] rfl (v_X11_pages_23 n _ _ _ hF)
    · replace hF := iq c hF
      refine V.iconst (v := -1) dX11_pages_17 rfl ?_
      cases hF
      exact V.iret dX11_pages_18
/-! MonsterCot.left -/
theorem dX11_left_0 : decode cX11_left 0 = .ok (.aload_n 0, 1) := by decide +kernel
theorem dX11_left_1 : decode cX11_left 1 = .ok (.getfield 42, 3) := by decide +kernel
theorem dX11_left_4 : decode cX11_left 4 = .ok (.iload_n 1, 1) := by decide +kernel
theorem dX11_left_5 : decode cX11_left 5 = .ok (.invokevirtual 153, 3) := by decide +kernel
theorem dX11_left_8 : decode cX11_left 8 = .ok (.ifCond .eq 18, 3) := by decide +kernel
theorem dX11_left_11 : decode cX11_left 11 = .ok (.aload_n 0, 1) := by decide +kernel
theorem dX11_left_12 : decode cX11_left 12 = .ok (.getfield 58, 3) := by decide +kernel
theorem dX11_left_15 : decode cX11_left 15 = .ok (.aload_n 0, 1) := by decide +kernel
theorem dX11_left_16 : decode cX11_left 16 = .ok (.getfield 65, 3) := by decide +kernel
theorem dX11_left_19 : decode cX11_left 19 = .ok (.iload_n 1, 1) := by decide +kernel
theorem dX11_left_20 : decode cX11_left 20 = .ok (.invokevirtual 294, 3) := by decide +kernel
theorem dX11_left_23 : decode cX11_left 23 = .ok (.goto 4, 3) := by decide +kernel
theorem dX11_left_26 : decode cX11_left 26 = .ok (.iconst (-1), 1) := by decide +kernel
theorem dX11_left_27 : decode cX11_left 27 = .ok (.ireturn, 1) := by decide +kernel
def X11_left (x1 : Int32) (h : Mm) : Option Int32 := (bp (X1_hasHouse 13 x1 h) (fun r5 => (if r5 = true then (bp (X9_leftOf 27 x1 h) (fun r7 => (some r7))) else (some (-1 : Int32)))))
set_option maxRecDepth 100000 in
set_option maxHeartbeats 4000000 in
theorem s_X11_left {X : WX} {o : Mm} {x1 : Int32} {rv : Int32} {h : Mm} (hF : X11_left x1 h = some rv) : Sat X yX11_left cX11_left 2 (some .int) 5 [.ref (xa X 0), .int x1] true o h (some (.int rv)) h := by
  unfold X11_left at hF
  refine Sat.mk (own := RX11) rfl (by decide +kernel) (Nat.le_of_ble_eq_true rfl) (fun G => ?_)
  refine V.sub (lv2 := [(0, _), (1, _)]) [0, 1] rfl ?_
  refine V.aload_n 0 dX11_left_0 rfl rfl ?_
  refine V.getR (v := 13) fl_X11_42 sh_0 rfl fx_0_4 (by decide) dX11_left_1 ?_
  refine V.iload_n 1 dX11_left_4 rfl rfl ?_
  obtain ⟨r5, hc6, hF⟩ := bp_s hF
  refine V.callVi mf_X1_hasHouse ml_X11_153 sh_13 (s_X1_hasHouse (Or.inr rfl) hc6) (by decide) rfl rfl (Nat.le_of_ble_eq_true rfl) dX11_left_5 ?_
  refine V.ifz_eq (tgt := 26) dX11_left_8 rfl (fun c => ?_) (fun c => ?_)
  · replace hF := iq c hF
    refine V.iconst (v := -1) dX11_left_26 rfl ?_
    cases hF
    exact V.iret dX11_left_27
  · replace hF := ip c hF
    refine V.aload_n 0 dX11_left_11 rfl rfl ?_
    refine V.getR (v := 26) fl_X11_58 sh_0 rfl fx_0_6 (by decide) dX11_left_12 ?_
    refine V.aload_n 0 dX11_left_15 rfl rfl ?_
    refine V.getR (v := 27) fl_X11_65 sh_0 rfl fx_0_7 (by decide) dX11_left_16 ?_
    refine V.iload_n 1 dX11_left_19 rfl rfl ?_
    obtain ⟨r7, hc8, hF⟩ := bp_s hF
    refine V.callVi mf_X9_leftOf ml_X11_294 sh_26 (s_X9_leftOf isb_27 hc8) (by decide) rfl rfl (Nat.le_of_ble_eq_true rfl) dX11_left_20 ?_
    refine V.goto (tgt := 27) dX11_left_23 rfl ?_
    cases hF
    exact V.iret dX11_left_27
/-! MonsterCot$Past.keepImage -/
theorem dX5_keepImage_0 : decode cX5_keepImage 0 = .ok (.aload_n 0, 1) := by decide +kernel
theorem dX5_keepImage_1 : decode cX5_keepImage 1 = .ok (.getfield 22, 3) := by decide +kernel
theorem dX5_keepImage_4 : decode cX5_keepImage 4 = .ok (.aload_n 1, 1) := by decide +kernel
theorem dX5_keepImage_5 : decode cX5_keepImage 5 = .ok (.invokevirtual 40, 3) := by decide +kernel
theorem dX5_keepImage_8 : decode cX5_keepImage 8 = .ok (.aload_n 0, 1) := by decide +kernel
theorem dX5_keepImage_9 : decode cX5_keepImage 9 = .ok (.getfield 17, 3) := by decide +kernel
theorem dX5_keepImage_12 : decode cX5_keepImage 12 = .ok (.aload_n 0, 1) := by decide +kernel
theorem dX5_keepImage_13 : decode cX5_keepImage 13 = .ok (.getfield 26, 3) := by decide +kernel
theorem dX5_keepImage_16 : decode cX5_keepImage 16 = .ok (.invokestatic 68, 3) := by decide +kernel
theorem dX5_keepImage_19 : decode cX5_keepImage 19 = .ok (.aload_n 0, 1) := by decide +kernel
theorem dX5_keepImage_20 : decode cX5_keepImage 20 = .ok (.iconst 1, 1) := by decide +kernel
theorem dX5_keepImage_21 : decode cX5_keepImage 21 = .ok (.putfield 33, 3) := by decide +kernel
theorem dX5_keepImage_24 : decode cX5_keepImage 24 = .ok (.return_, 1) := by decide +kernel
def X5_keepImage (a1 : Nat) (h : Mm) : Option (Unit × Mm) := (bd (X0_copyFrom 40 a1 h) (fun _ h9 => (bd (X11_copy 39 45 h9) (fun _ h12 => (some ((), (wI h12 37 4 (1 : Int32))))))))
set_option maxRecDepth 100000 in
set_option maxHeartbeats 4000000 in
theorem s_X5_keepImage {X : WX} {o : Mm} {a1 : Nat} {rv : Unit} {hz : Mm} {h : Mm} (ha1 : isBed a1) (hF : X5_keepImage a1 h = some (rv, hz)) : Sat X yX5_keepImage cX5_keepImage 2 (none) 4 [.ref (xa X 37), .ref (xa X a1)] true o h none hz := by
  unfold X5_keepImage at hF
  refine Sat.mk (own := RX5) rfl (by decide +kernel) (Nat.le_of_ble_eq_true rfl) (fun G => ?_)
  refine V.sub (lv2 := [(0, _), (1, _)]) [0, 1] rfl ?_
  refine V.aload_n 0 dX5_keepImage_0 rfl rfl ?_
  refine V.getR (v := 40) fl_X5_22 sh_37 rfl fx_37_2 (by decide) dX5_keepImage_1 ?_
  refine V.aload_n 1 dX5_keepImage_4 rfl rfl ?_
  obtain ⟨r7, h9, hc8, hF⟩ := bd_s hF
  refine V.callVv mf_X0_copyFrom ml_X5_40 sh_40 (s_X0_copyFrom isb_40 ha1 hc8) (by decide) rfl rfl (Nat.le_of_ble_eq_true rfl) dX5_keepImage_5 ?_
  refine V.aload_n 0 dX5_keepImage_8 rfl rfl ?_
  refine V.getR (v := 39) fl_X5_17 sh_37 rfl fx_37_1 (by decide) dX5_keepImage_9 ?_
  refine V.aload_n 0 dX5_keepImage_12 rfl rfl ?_
  refine V.getR (v := 45) fl_X5_26 sh_37 rfl fx_37_3 (by decide) dX5_keepImage_13 ?_
  obtain ⟨r10, h12, hc11, hF⟩ := bd_s hF
  refine V.callNv mf_X11_copy ml_X5_68 (s_X11_copy io_39 io_45 hc11) (by decide) rfl rfl (Nat.le_of_ble_eq_true rfl) dX5_keepImage_16 ?_
  refine V.aload_n 0 dX5_keepImage_19 rfl rfl ?_
  refine V.iconst (v := 1) dX5_keepImage_20 rfl ?_
  refine V.putI fl_X5_33 rfl (tyX5_ok 4 (by decide)) rfl rfl sh_37 rfl km_37 dX5_keepImage_21 ?_
  cases hF
  exact V.vret dX5_keepImage_24
/-! MonsterCot.image -/
theorem dX11_image_0 : decode cX11_image 0 = .ok (.aload_n 0, 1) := by decide +kernel
theorem dX11_image_1 : decode cX11_image 1 = .ok (.getfield 42, 3) := by decide +kernel
theorem dX11_image_4 : decode cX11_image 4 = .ok (.invokevirtual 124, 3) := by decide +kernel
theorem dX11_image_7 : decode cX11_image 7 = .ok (.ifCond .ne 5, 3) := by decide +kernel
theorem dX11_image_10 : decode cX11_image 10 = .ok (.iconst (-1), 1) := by decide +kernel
theorem dX11_image_11 : decode cX11_image 11 = .ok (.ireturn, 1) := by decide +kernel
theorem dX11_image_12 : decode cX11_image 12 = .ok (.aload_n 0, 1) := by decide +kernel
theorem dX11_image_13 : decode cX11_image 13 = .ok (.getfield 75, 3) := by decide +kernel
theorem dX11_image_16 : decode cX11_image 16 = .ok (.aload_n 0, 1) := by decide +kernel
theorem dX11_image_17 : decode cX11_image 17 = .ok (.getfield 65, 3) := by decide +kernel
theorem dX11_image_20 : decode cX11_image 20 = .ok (.invokevirtual 373, 3) := by decide +kernel
theorem dX11_image_23 : decode cX11_image 23 = .ok (.aload_n 0, 1) := by decide +kernel
theorem dX11_image_24 : decode cX11_image 24 = .ok (.getfield 65, 3) := by decide +kernel
theorem dX11_image_27 : decode cX11_image 27 = .ok (.getfield 234, 3) := by decide +kernel
theorem dX11_image_30 : decode cX11_image 30 = .ok (.ireturn, 1) := by decide +kernel
def X11_image (h : Mm) : Option (Int32 × Mm) := (bp (X1_stands 13 h) (fun r6 => (if r6 = true then (bd (X5_keepImage 27 h) (fun _ h10 => (some ((h10.1 27 6), h10)))) else (some ((-1 : Int32), h)))))
set_option maxRecDepth 100000 in
set_option maxHeartbeats 4000000 in
theorem s_X11_image {X : WX} {o : Mm} {rv : Int32} {hz : Mm} {h : Mm} (hF : X11_image h = some (rv, hz)) : Sat X yX11_image cX11_image 1 (some .int) 5 [.ref (xa X 0)] true o h (some (.int rv)) hz := by
  unfold X11_image at hF
  refine Sat.mk (own := RX11) rfl (by decide +kernel) (Nat.le_of_ble_eq_true rfl) (fun G => ?_)
  refine V.sub (lv2 := [(0, _)]) [0] rfl ?_
  refine V.aload_n 0 dX11_image_0 rfl rfl ?_
  refine V.getR (v := 13) fl_X11_42 sh_0 rfl fx_0_4 (by decide) dX11_image_1 ?_
  obtain ⟨r6, hc7, hF⟩ := bp_s hF
  refine V.callVi mf_X1_stands ml_X11_124 sh_13 (s_X1_stands (Or.inr rfl) hc7) (by decide) rfl rfl (Nat.le_of_ble_eq_true rfl) dX11_image_4 ?_
  refine V.ifz_ne (tgt := 12) dX11_image_7 rfl (fun c => ?_) (fun c => ?_)
  · replace hF := ip c hF
    refine V.aload_n 0 dX11_image_12 rfl rfl ?_
    refine V.getR (v := 37) fl_X11_75 sh_0 rfl fx_0_9 (by decide) dX11_image_13 ?_
    refine V.aload_n 0 dX11_image_16 rfl rfl ?_
    refine V.getR (v := 27) fl_X11_65 sh_0 rfl fx_0_7 (by decide) dX11_image_17 ?_
    obtain ⟨r8, h10, hc9, hF⟩ := bd_s hF
    refine V.callVv mf_X5_keepImage ml_X11_373 sh_37 (s_X5_keepImage isb_27 hc9) (by decide) rfl rfl (Nat.le_of_ble_eq_true rfl) dX11_image_20 ?_
    refine V.aload_n 0 dX11_image_23 rfl rfl ?_
    refine V.getR (v := 27) fl_X11_65 sh_0 rfl fx_0_7 (by decide) dX11_image_24 ?_
    refine V.getI fl_X11_234 sh_27 rfl km_27 dX11_image_27 ?_
    cases hF
    exact V.iret dX11_image_30
  · replace hF := iq c hF
    refine V.iconst (v := -1) dX11_image_10 rfl ?_
    cases hF
    exact V.iret dX11_image_11
/-! MonsterCot$Past.bringBack -/
theorem dX5_bringBack_0 : decode cX5_bringBack 0 = .ok (.aload_n 0, 1) := by decide +kernel
theorem dX5_bringBack_1 : decode cX5_bringBack 1 = .ok (.getfield 33, 3) := by decide +kernel
theorem dX5_bringBack_4 : decode cX5_bringBack 4 = .ok (.ifCond .ne 5, 3) := by decide +kernel
theorem dX5_bringBack_7 : decode cX5_bringBack 7 = .ok (.iconst 0, 1) := by decide +kernel
theorem dX5_bringBack_8 : decode cX5_bringBack 8 = .ok (.ireturn, 1) := by decide +kernel
theorem dX5_bringBack_9 : decode cX5_bringBack 9 = .ok (.aload_n 1, 1) := by decide +kernel
theorem dX5_bringBack_10 : decode cX5_bringBack 10 = .ok (.aload_n 0, 1) := by decide +kernel
theorem dX5_bringBack_11 : decode cX5_bringBack 11 = .ok (.getfield 22, 3) := by decide +kernel
theorem dX5_bringBack_14 : decode cX5_bringBack 14 = .ok (.invokevirtual 40, 3) := by decide +kernel
theorem dX5_bringBack_17 : decode cX5_bringBack 17 = .ok (.aload_n 0, 1) := by decide +kernel
theorem dX5_bringBack_18 : decode cX5_bringBack 18 = .ok (.getfield 26, 3) := by decide +kernel
theorem dX5_bringBack_21 : decode cX5_bringBack 21 = .ok (.aload_n 0, 1) := by decide +kernel
theorem dX5_bringBack_22 : decode cX5_bringBack 22 = .ok (.getfield 17, 3) := by decide +kernel
theorem dX5_bringBack_25 : decode cX5_bringBack 25 = .ok (.invokestatic 68, 3) := by decide +kernel
theorem dX5_bringBack_28 : decode cX5_bringBack 28 = .ok (.aload_n 0, 1) := by decide +kernel
theorem dX5_bringBack_29 : decode cX5_bringBack 29 = .ok (.iconst 0, 1) := by decide +kernel
theorem dX5_bringBack_30 : decode cX5_bringBack 30 = .ok (.putfield 29, 3) := by decide +kernel
theorem dX5_bringBack_33 : decode cX5_bringBack 33 = .ok (.iconst 1, 1) := by decide +kernel
theorem dX5_bringBack_34 : decode cX5_bringBack 34 = .ok (.ireturn, 1) := by decide +kernel
def X5_bringBack (a1 : Nat) (h : Mm) : Option (Bool × Mm) := (if (h.1 37 4) = 0 then (some (false, h)) else (bd (X0_copyFrom a1 40 h) (fun _ h9 => (bd (X11_copy 45 39 h9) (fun _ h12 => (some (true, (wI h12 37 5 (0 : Int32)))))))))
set_option maxRecDepth 100000 in
set_option maxHeartbeats 4000000 in
theorem s_X5_bringBack {X : WX} {o : Mm} {a1 : Nat} {rv : Bool} {hz : Mm} {h : Mm} (ha1 : isBed a1) (hF : X5_bringBack a1 h = some (rv, hz)) : Sat X yX5_bringBack cX5_bringBack 2 (some .boolean) 4 [.ref (xa X 37), .ref (xa X a1)] true o h (some (.int (b2i rv))) hz := by
  unfold X5_bringBack at hF
  refine Sat.mk (own := RX5) rfl (by decide +kernel) (Nat.le_of_ble_eq_true rfl) (fun G => ?_)
  refine V.sub (lv2 := [(0, _), (1, _)]) [0, 1] rfl ?_
  refine V.aload_n 0 dX5_bringBack_0 rfl rfl ?_
  refine V.getI fl_X5_33 sh_37 rfl km_37 dX5_bringBack_1 ?_
  refine V.if_ne (tgt := 9) dX5_bringBack_4 rfl (fun c => ?_) (fun c => ?_)
  · replace hF := iq c hF
    refine V.aload_n 1 dX5_bringBack_9 rfl rfl ?_
    refine V.aload_n 0 dX5_bringBack_10 rfl rfl ?_
    refine V.getR (v := 40) fl_X5_22 sh_37 rfl fx_37_2 (by decide) dX5_bringBack_11 ?_
    obtain ⟨r7, h9, hc8, hF⟩ := bd_s hF
    refine V.callVv mf_X0_copyFrom ml_X5_40 ha1.sh (s_X0_copyFrom ha1 isb_40 hc8) (by decide) rfl rfl (Nat.le_of_ble_eq_true rfl) dX5_bringBack_14 ?_
    refine V.aload_n 0 dX5_bringBack_17 rfl rfl ?_
    refine V.getR (v := 45) fl_X5_26 sh_37 rfl fx_37_3 (by decide) dX5_bringBack_18 ?_
    refine V.aload_n 0 dX5_bringBack_21 rfl rfl ?_
    refine V.getR (v := 39) fl_X5_17 sh_37 rfl fx_37_1 (by decide) dX5_bringBack_22 ?_
    obtain ⟨r10, h12, hc11, hF⟩ := bd_s hF
    refine V.callNv mf_X11_copy ml_X5_68 (s_X11_copy io_45 io_39 hc11) (by decide) rfl rfl (Nat.le_of_ble_eq_true rfl) dX5_bringBack_25 ?_
    refine V.aload_n 0 dX5_bringBack_28 rfl rfl ?_
    refine V.iconst (v := 0) dX5_bringBack_29 rfl ?_
    refine V.putI fl_X5_29 rfl (tyX5_ok 5 (by decide)) rfl rfl sh_37 rfl km_37 dX5_bringBack_30 ?_
    refine V.iconst (v := 1) dX5_bringBack_33 rfl ?_
    cases hF
    exact V.bret dX5_bringBack_34
  · replace hF := ip c hF
    refine V.iconst (v := 0) dX5_bringBack_7 rfl ?_
    cases hF
    exact V.bret dX5_bringBack_8
/-! MonsterCot.back -/
theorem dX11_back_0 : decode cX11_back 0 = .ok (.aload_n 0, 1) := by decide +kernel
theorem dX11_back_1 : decode cX11_back 1 = .ok (.getfield 75, 3) := by decide +kernel
theorem dX11_back_4 : decode cX11_back 4 = .ok (.aload_n 0, 1) := by decide +kernel
theorem dX11_back_5 : decode cX11_back 5 = .ok (.getfield 65, 3) := by decide +kernel
theorem dX11_back_8 : decode cX11_back 8 = .ok (.invokevirtual 376, 3) := by decide +kernel
theorem dX11_back_11 : decode cX11_back 11 = .ok (.ifCond .eq 13, 3) := by decide +kernel
theorem dX11_back_14 : decode cX11_back 14 = .ok (.aload_n 0, 1) := by decide +kernel
theorem dX11_back_15 : decode cX11_back 15 = .ok (.getfield 65, 3) := by decide +kernel
theorem dX11_back_18 : decode cX11_back 18 = .ok (.getfield 234, 3) := by decide +kernel
theorem dX11_back_21 : decode cX11_back 21 = .ok (.goto 4, 3) := by decide +kernel
theorem dX11_back_24 : decode cX11_back 24 = .ok (.iconst (-1), 1) := by decide +kernel
theorem dX11_back_25 : decode cX11_back 25 = .ok (.ireturn, 1) := by decide +kernel
def X11_back (h : Mm) : Option (Int32 × Mm) := (bd (X5_bringBack 27 h) (fun r4 h6 => (if r4 = true then (some ((h6.1 27 6), h6)) else (some ((-1 : Int32), h6)))))
set_option maxRecDepth 100000 in
set_option maxHeartbeats 4000000 in
theorem s_X11_back {X : WX} {o : Mm} {rv : Int32} {hz : Mm} {h : Mm} (hF : X11_back h = some (rv, hz)) : Sat X yX11_back cX11_back 1 (some .int) 5 [.ref (xa X 0)] true o h (some (.int rv)) hz := by
  unfold X11_back at hF
  refine Sat.mk (own := RX11) rfl (by decide +kernel) (Nat.le_of_ble_eq_true rfl) (fun G => ?_)
  refine V.sub (lv2 := [(0, _)]) [0] rfl ?_
  refine V.aload_n 0 dX11_back_0 rfl rfl ?_
  refine V.getR (v := 37) fl_X11_75 sh_0 rfl fx_0_9 (by decide) dX11_back_1 ?_
  refine V.aload_n 0 dX11_back_4 rfl rfl ?_
  refine V.getR (v := 27) fl_X11_65 sh_0 rfl fx_0_7 (by decide) dX11_back_5 ?_
  obtain ⟨r4, h6, hc5, hF⟩ := bd_s hF
  refine V.callVi mf_X5_bringBack ml_X11_376 sh_37 (s_X5_bringBack isb_27 hc5) (by decide) rfl rfl (Nat.le_of_ble_eq_true rfl) dX11_back_8 ?_
  refine V.ifz_eq (tgt := 24) dX11_back_11 rfl (fun c => ?_) (fun c => ?_)
  · replace hF := iq c hF
    refine V.iconst (v := -1) dX11_back_24 rfl ?_
    cases hF
    exact V.iret dX11_back_25
  · replace hF := ip c hF
    refine V.aload_n 0 dX11_back_14 rfl rfl ?_
    refine V.getR (v := 27) fl_X11_65 sh_0 rfl fx_0_7 (by decide) dX11_back_15 ?_
    refine V.getI fl_X11_234 sh_27 rfl km_27 dX11_back_18 ?_
    refine V.goto (tgt := 25) dX11_back_21 rfl ?_
    cases hF
    exact V.iret dX11_back_25
/-! MonsterCot.countOfNow -/
theorem dX11_countOfNow_0 : decode cX11_countOfNow 0 = .ok (.iload_n 1, 1) := by decide +kernel
theorem dX11_countOfNow_1 : decode cX11_countOfNow 1 = .ok (.tableswitch 148 6 15 #[55, 63, 71, 79, 87, 103, 119, 124, 132, 140], 55) := by decide +kernel
theorem dX11_countOfNow_56 : decode cX11_countOfNow 56 = .ok (.aload_n 0, 1) := by decide +kernel
theorem dX11_countOfNow_57 : decode cX11_countOfNow 57 = .ok (.getfield 65, 3) := by decide +kernel
theorem dX11_countOfNow_60 : decode cX11_countOfNow 60 = .ok (.getfield 234, 3) := by decide +kernel
theorem dX11_countOfNow_63 : decode cX11_countOfNow 63 = .ok (.ireturn, 1) := by decide +kernel
theorem dX11_countOfNow_64 : decode cX11_countOfNow 64 = .ok (.aload_n 0, 1) := by decide +kernel
theorem dX11_countOfNow_65 : decode cX11_countOfNow 65 = .ok (.getfield 65, 3) := by decide +kernel
theorem dX11_countOfNow_68 : decode cX11_countOfNow 68 = .ok (.getfield 221, 3) := by decide +kernel
theorem dX11_countOfNow_71 : decode cX11_countOfNow 71 = .ok (.ireturn, 1) := by decide +kernel
theorem dX11_countOfNow_72 : decode cX11_countOfNow 72 = .ok (.aload_n 0, 1) := by decide +kernel
theorem dX11_countOfNow_73 : decode cX11_countOfNow 73 = .ok (.getfield 65, 3) := by decide +kernel
theorem dX11_countOfNow_76 : decode cX11_countOfNow 76 = .ok (.getfield 390, 3) := by decide +kernel
theorem dX11_countOfNow_79 : decode cX11_countOfNow 79 = .ok (.ireturn, 1) := by decide +kernel
theorem dX11_countOfNow_80 : decode cX11_countOfNow 80 = .ok (.aload_n 0, 1) := by decide +kernel
theorem dX11_countOfNow_81 : decode cX11_countOfNow 81 = .ok (.getfield 65, 3) := by decide +kernel
theorem dX11_countOfNow_84 : decode cX11_countOfNow 84 = .ok (.getfield 393, 3) := by decide +kernel
theorem dX11_countOfNow_87 : decode cX11_countOfNow 87 = .ok (.ireturn, 1) := by decide +kernel
theorem dX11_countOfNow_88 : decode cX11_countOfNow 88 = .ok (.aload_n 0, 1) := by decide +kernel
theorem dX11_countOfNow_89 : decode cX11_countOfNow 89 = .ok (.getfield 65, 3) := by decide +kernel
theorem dX11_countOfNow_92 : decode cX11_countOfNow 92 = .ok (.getfield 396, 3) := by decide +kernel
theorem dX11_countOfNow_95 : decode cX11_countOfNow 95 = .ok (.ifCond .eq 7, 3) := by decide +kernel
theorem dX11_countOfNow_98 : decode cX11_countOfNow 98 = .ok (.iconst 1, 1) := by decide +kernel
theorem dX11_countOfNow_99 : decode cX11_countOfNow 99 = .ok (.goto 4, 3) := by decide +kernel
theorem dX11_countOfNow_102 : decode cX11_countOfNow 102 = .ok (.iconst 0, 1) := by decide +kernel
theorem dX11_countOfNow_103 : decode cX11_countOfNow 103 = .ok (.ireturn, 1) := by decide +kernel
theorem dX11_countOfNow_104 : decode cX11_countOfNow 104 = .ok (.aload_n 0, 1) := by decide +kernel
theorem dX11_countOfNow_105 : decode cX11_countOfNow 105 = .ok (.getfield 65, 3) := by decide +kernel
theorem dX11_countOfNow_108 : decode cX11_countOfNow 108 = .ok (.getfield 400, 3) := by decide +kernel
theorem dX11_countOfNow_111 : decode cX11_countOfNow 111 = .ok (.ifCond .eq 7, 3) := by decide +kernel
theorem dX11_countOfNow_114 : decode cX11_countOfNow 114 = .ok (.iconst 1, 1) := by decide +kernel
theorem dX11_countOfNow_115 : decode cX11_countOfNow 115 = .ok (.goto 4, 3) := by decide +kernel
theorem dX11_countOfNow_118 : decode cX11_countOfNow 118 = .ok (.iconst 0, 1) := by decide +kernel
theorem dX11_countOfNow_119 : decode cX11_countOfNow 119 = .ok (.ireturn, 1) := by decide +kernel
theorem dX11_countOfNow_120 : decode cX11_countOfNow 120 = .ok (.aload_n 0, 1) := by decide +kernel
theorem dX11_countOfNow_121 : decode cX11_countOfNow 121 = .ok (.getfield 192, 3) := by decide +kernel
theorem dX11_countOfNow_124 : decode cX11_countOfNow 124 = .ok (.ireturn, 1) := by decide +kernel
theorem dX11_countOfNow_125 : decode cX11_countOfNow 125 = .ok (.aload_n 0, 1) := by decide +kernel
theorem dX11_countOfNow_126 : decode cX11_countOfNow 126 = .ok (.getfield 91, 3) := by decide +kernel
theorem dX11_countOfNow_129 : decode cX11_countOfNow 129 = .ok (.getfield 320, 3) := by decide +kernel
theorem dX11_countOfNow_132 : decode cX11_countOfNow 132 = .ok (.ireturn, 1) := by decide +kernel
theorem dX11_countOfNow_133 : decode cX11_countOfNow 133 = .ok (.aload_n 0, 1) := by decide +kernel
theorem dX11_countOfNow_134 : decode cX11_countOfNow 134 = .ok (.getfield 65, 3) := by decide +kernel
theorem dX11_countOfNow_137 : decode cX11_countOfNow 137 = .ok (.invokestatic 403, 3) := by decide +kernel
theorem dX11_countOfNow_140 : decode cX11_countOfNow 140 = .ok (.ireturn, 1) := by decide +kernel
theorem dX11_countOfNow_141 : decode cX11_countOfNow 141 = .ok (.aload_n 0, 1) := by decide +kernel
theorem dX11_countOfNow_142 : decode cX11_countOfNow 142 = .ok (.getfield 75, 3) := by decide +kernel
theorem dX11_countOfNow_145 : decode cX11_countOfNow 145 = .ok (.getfield 250, 3) := by decide +kernel
theorem dX11_countOfNow_148 : decode cX11_countOfNow 148 = .ok (.ireturn, 1) := by decide +kernel
theorem dX11_countOfNow_149 : decode cX11_countOfNow 149 = .ok (.ldc_w 261, 3) := by decide +kernel
theorem dX11_countOfNow_152 : decode cX11_countOfNow 152 = .ok (.ireturn, 1) := by decide +kernel
def X11_countOfNow (x1 : Int32) (h : Mm) : Option Int32 := (if x1 = 6 then (some (h.1 27 6)) else (if x1 = 7 then (some (h.1 27 5)) else (if x1 = 8 then (some (h.1 27 7)) else (if x1 = 9 then (some (h.1 27 8)) else (if x1 = 10 then (if (h.1 27 11) = 0 then (some (0 : Int32)) else (some (1 : Int32))) else (if x1 = 11 then (if (h.1 27 12) = 0 then (some (0 : Int32)) else (some (1 : Int32))) else (if x1 = 12 then (some (h.1 0 12)) else (if x1 = 13 then (some (h.1 249 4)) else (if x1 = 14 then (bp (X5_lengthOf 27 h) (fun r3 => (some r3))) else (if x1 = 15 then (some (h.1 37 5)) else (some (-1000000 : Int32))))))))))))
set_option maxRecDepth 100000 in
set_option maxHeartbeats 4000000 in
theorem s_X11_countOfNow {X : WX} {o : Mm} {x1 : Int32} {rv : Int32} {h : Mm} (hF : X11_countOfNow x1 h = some rv) : Sat X yX11_countOfNow cX11_countOfNow 2 (some .int) 3 [.ref (xa X 0), .int x1] true o h (some (.int rv)) h := by
  unfold X11_countOfNow at hF
  refine Sat.mk (own := RX11) rfl (by decide +kernel) (Nat.le_of_ble_eq_true rfl) (fun G => ?_)
  refine V.sub (lv2 := [(0, _), (1, _)]) [0, 1] rfl ?_
  refine V.iload_n 1 dX11_countOfNow_0 rfl rfl ?_
  by_cases c0 : x1 = 6
  · replace hF := ip c0 hF
    refine V.tswIn (tgt := 56) c0 dX11_countOfNow_1 (by decide) (by decide) rfl rfl ?_
    refine V.aload_n 0 dX11_countOfNow_56 rfl rfl ?_
    refine V.getR (v := 27) fl_X11_65 sh_0 rfl fx_0_7 (by decide) dX11_countOfNow_57 ?_
    refine V.getI fl_X11_234 sh_27 rfl km_27 dX11_countOfNow_60 ?_
    cases hF
    exact V.iret dX11_countOfNow_63
  replace hF := iq c0 hF
  by_cases c1 : x1 = 7
  · replace hF := ip c1 hF
    refine V.tswIn (tgt := 64) c1 dX11_countOfNow_1 (by decide) (by decide) rfl rfl ?_
    refine V.aload_n 0 dX11_countOfNow_64 rfl rfl ?_
    refine V.getR (v := 27) fl_X11_65 sh_0 rfl fx_0_7 (by decide) dX11_countOfNow_65 ?_
    refine V.getI fl_X11_221 sh_27 rfl km_27 dX11_countOfNow_68 ?_
    cases hF
    exact V.iret dX11_countOfNow_71
  replace hF := iq c1 hF
  by_cases c2 : x1 = 8
  · replace hF := ip c2 hF
    refine V.tswIn (tgt := 72) c2 dX11_countOfNow_1 (by decide) (by decide) rfl rfl ?_
    refine V.aload_n 0 dX11_countOfNow_72 rfl rfl ?_
    refine V.getR (v := 27) fl_X11_65 sh_0 rfl fx_0_7 (by decide) dX11_countOfNow_73 ?_
    refine V.getI fl_X11_390 sh_27 rfl km_27 dX11_countOfNow_76 ?_
    cases hF
    exact V.iret dX11_countOfNow_79
  replace hF := iq c2 hF
  by_cases c3 : x1 = 9
  · replace hF := ip c3 hF
    refine V.tswIn (tgt := 80) c3 dX11_countOfNow_1 (by decide) (by decide) rfl rfl ?_
    refine V.aload_n 0 dX11_countOfNow_80 rfl rfl ?_
    refine V.getR (v := 27) fl_X11_65 sh_0 rfl fx_0_7 (by decide) dX11_countOfNow_81 ?_
    refine V.getI fl_X11_393 sh_27 rfl km_27 dX11_countOfNow_84 ?_
    cases hF
    exact V.iret dX11_countOfNow_87
  replace hF := iq c3 hF
  by_cases c4 : x1 = 10
  · replace hF := ip c4 hF
    refine V.tswIn (tgt := 88) c4 dX11_countOfNow_1 (by decide) (by decide) rfl rfl ?_
    refine V.aload_n 0 dX11_countOfNow_88 rfl rfl ?_
    refine V.getR (v := 27) fl_X11_65 sh_0 rfl fx_0_7 (by decide) dX11_countOfNow_89 ?_
    refine V.getI fl_X11_396 sh_27 rfl km_27 dX11_countOfNow_92 ?_
    refine V.if_eq (tgt := 102) dX11_countOfNow_95 rfl (fun c => ?_) (fun c => ?_)
    · replace hF := ip c hF
      refine V.iconst (v := 0) dX11_countOfNow_102 rfl ?_
      cases hF
      exact V.iret dX11_countOfNow_103
    · replace hF := iq c hF
      refine V.iconst (v := 1) dX11_countOfNow_98 rfl ?_
      refine V.goto (tgt := 103) dX11_countOfNow_99 rfl ?_
      cases hF
      exact V.iret dX11_countOfNow_103
  replace hF := iq c4 hF
  by_cases c5 : x1 = 11
  · replace hF := ip c5 hF
    refine V.tswIn (tgt := 104) c5 dX11_countOfNow_1 (by decide) (by decide) rfl rfl ?_
    refine V.aload_n 0 dX11_countOfNow_104 rfl rfl ?_
    refine V.getR (v := 27) fl_X11_65 sh_0 rfl fx_0_7 (by decide) dX11_countOfNow_105 ?_
    refine V.getI fl_X11_400 sh_27 rfl km_27 dX11_countOfNow_108 ?_
    refine V.if_eq (tgt := 118) dX11_countOfNow_111 rfl (fun c => ?_) (fun c => ?_)
    · replace hF := ip c hF
      refine V.iconst (v := 0) dX11_countOfNow_118 rfl ?_
      cases hF
      exact V.iret dX11_countOfNow_119
    · replace hF := iq c hF
      refine V.iconst (v := 1) dX11_countOfNow_114 rfl ?_
      refine V.goto (tgt := 119) dX11_countOfNow_115 rfl ?_
      cases hF
      exact V.iret dX11_countOfNow_119
  replace hF := iq c5 hF
  by_cases c6 : x1 = 12
  · replace hF := ip c6 hF
    refine V.tswIn (tgt := 120) c6 dX11_countOfNow_1 (by decide) (by decide) rfl rfl ?_
    refine V.aload_n 0 dX11_countOfNow_120 rfl rfl ?_
    refine V.getI fl_X11_192 sh_0 rfl km_0 dX11_countOfNow_121 ?_
    cases hF
    exact V.iret dX11_countOfNow_124
  replace hF := iq c6 hF
  by_cases c7 : x1 = 13
  · replace hF := ip c7 hF
    refine V.tswIn (tgt := 125) c7 dX11_countOfNow_1 (by decide) (by decide) rfl rfl ?_
    refine V.aload_n 0 dX11_countOfNow_125 rfl rfl ?_
    refine V.getR (v := 249) fl_X11_91 sh_0 rfl fx_0_11 (by decide) dX11_countOfNow_126 ?_
    refine V.getI fl_X11_320 sh_249 rfl km_249 dX11_countOfNow_129 ?_
    cases hF
    exact V.iret dX11_countOfNow_132
  replace hF := iq c7 hF
  by_cases c8 : x1 = 14
  · replace hF := ip c8 hF
    refine V.tswIn (tgt := 133) c8 dX11_countOfNow_1 (by decide) (by decide) rfl rfl ?_
    refine V.aload_n 0 dX11_countOfNow_133 rfl rfl ?_
    refine V.getR (v := 27) fl_X11_65 sh_0 rfl fx_0_7 (by decide) dX11_countOfNow_134 ?_
    obtain ⟨r3, hc4, hF⟩ := bp_s hF
    refine V.callSi mf_X5_lengthOf ml_X11_403 (s_X5_lengthOf isb_27 hc4) (by decide) rfl rfl (Nat.le_of_ble_eq_true rfl) dX11_countOfNow_137 ?_
    cases hF
    exact V.iret dX11_countOfNow_140
  replace hF := iq c8 hF
  by_cases c9 : x1 = 15
  · replace hF := ip c9 hF
    refine V.tswIn (tgt := 141) c9 dX11_countOfNow_1 (by decide) (by decide) rfl rfl ?_
    refine V.aload_n 0 dX11_countOfNow_141 rfl rfl ?_
    refine V.getR (v := 37) fl_X11_75 sh_0 rfl fx_0_9 (by decide) dX11_countOfNow_142 ?_
    refine V.getI fl_X11_250 sh_37 rfl km_37 dX11_countOfNow_145 ?_
    cases hF
    exact V.iret dX11_countOfNow_148
  replace hF := iq c9 hF
  refine V.tswOut (tgt := 149) dX11_countOfNow_1 (tsw_out (by decide) (by decide) [6, 7, 8, 9, 10, 11, 12, 13, 14, 15] rfl (fun v hv => ?_)) rfl ?_
  · simp only [List.mem_cons, List.not_mem_nil, or_false] at hv
    rcases hv with rfl | rfl | rfl | rfl | rfl | rfl | rfl | rfl | rfl | rfl <;> assumption
  refine V.ldcw (v := -1000000) dX11_countOfNow_149 kc_X11_261 ?_
  cases hF
  exact V.iret dX11_countOfNow_152
/-! MonsterCot.count -/
theorem dX11_count_0 : decode cX11_count 0 = .ok (.iload_n 1, 1) := by decide +kernel
theorem dX11_count_1 : decode cX11_count 1 = .ok (.tableswitch 87 0 5 #[39, 47, 55, 63, 71, 79], 39) := by decide +kernel
theorem dX11_count_40 : decode cX11_count 40 = .ok (.aload_n 0, 1) := by decide +kernel
theorem dX11_count_41 : decode cX11_count 41 = .ok (.getfield 42, 3) := by decide +kernel
theorem dX11_count_44 : decode cX11_count 44 = .ok (.invokevirtual 379, 3) := by decide +kernel
theorem dX11_count_47 : decode cX11_count 47 = .ok (.ireturn, 1) := by decide +kernel
theorem dX11_count_48 : decode cX11_count 48 = .ok (.aload_n 0, 1) := by decide +kernel
theorem dX11_count_49 : decode cX11_count 49 = .ok (.getfield 42, 3) := by decide +kernel
theorem dX11_count_52 : decode cX11_count 52 = .ok (.invokevirtual 309, 3) := by decide +kernel
theorem dX11_count_55 : decode cX11_count 55 = .ok (.ireturn, 1) := by decide +kernel
theorem dX11_count_56 : decode cX11_count 56 = .ok (.aload_n 0, 1) := by decide +kernel
theorem dX11_count_57 : decode cX11_count 57 = .ok (.getfield 49, 3) := by decide +kernel
theorem dX11_count_60 : decode cX11_count 60 = .ok (.getfield 382, 3) := by decide +kernel
theorem dX11_count_63 : decode cX11_count 63 = .ok (.ireturn, 1) := by decide +kernel
theorem dX11_count_64 : decode cX11_count 64 = .ok (.aload_n 0, 1) := by decide +kernel
theorem dX11_count_65 : decode cX11_count 65 = .ok (.getfield 35, 3) := by decide +kernel
theorem dX11_count_68 : decode cX11_count 68 = .ok (.getfield 383, 3) := by decide +kernel
theorem dX11_count_71 : decode cX11_count 71 = .ok (.ireturn, 1) := by decide +kernel
theorem dX11_count_72 : decode cX11_count 72 = .ok (.aload_n 0, 1) := by decide +kernel
theorem dX11_count_73 : decode cX11_count 73 = .ok (.getfield 10, 3) := by decide +kernel
theorem dX11_count_76 : decode cX11_count 76 = .ok (.getfield 99, 3) := by decide +kernel
theorem dX11_count_79 : decode cX11_count 79 = .ok (.ireturn, 1) := by decide +kernel
theorem dX11_count_80 : decode cX11_count 80 = .ok (.aload_n 0, 1) := by decide +kernel
theorem dX11_count_81 : decode cX11_count 81 = .ok (.getfield 49, 3) := by decide +kernel
theorem dX11_count_84 : decode cX11_count 84 = .ok (.getfield 384, 3) := by decide +kernel
theorem dX11_count_87 : decode cX11_count 87 = .ok (.ireturn, 1) := by decide +kernel
theorem dX11_count_88 : decode cX11_count 88 = .ok (.aload_n 0, 1) := by decide +kernel
theorem dX11_count_89 : decode cX11_count 89 = .ok (.iload_n 1, 1) := by decide +kernel
theorem dX11_count_90 : decode cX11_count 90 = .ok (.invokevirtual 387, 3) := by decide +kernel
theorem dX11_count_93 : decode cX11_count 93 = .ok (.ireturn, 1) := by decide +kernel
def X11_count (x1 : Int32) (h : Mm) : Option Int32 := (if x1 = 0 then (bp (X1_houses 13 h) (fun r7 => (some r7))) else (if x1 = 1 then (bp (X1_books 13 h) (fun r9 => (some r9))) else (if x1 = 2 then (some (h.1 16 5)) else (if x1 = 3 then (some (h.1 9 5)) else (if x1 = 4 then (some (h.1 1 1)) else (if x1 = 5 then (some (h.1 16 6)) else (bp (X11_countOfNow x1 h) (fun r11 => (some r11)))))))))
set_option maxRecDepth 100000 in
set_option maxHeartbeats 4000000 in
theorem s_X11_count {X : WX} {o : Mm} {x1 : Int32} {rv : Int32} {h : Mm} (hF : X11_count x1 h = some rv) : Sat X yX11_count cX11_count 2 (some .int) 4 [.ref (xa X 0), .int x1] true o h (some (.int rv)) h := by
  unfold X11_count at hF
  refine Sat.mk (own := RX11) rfl (by decide +kernel) (Nat.le_of_ble_eq_true rfl) (fun G => ?_)
  refine V.sub (lv2 := [(0, _), (1, _)]) [0, 1] rfl ?_
  refine V.iload_n 1 dX11_count_0 rfl rfl ?_
  by_cases c0 : x1 = 0
  · replace hF := ip c0 hF
    refine V.tswIn (tgt := 40) c0 dX11_count_1 (by decide) (by decide) rfl rfl ?_
    refine V.aload_n 0 dX11_count_40 rfl rfl ?_
    refine V.getR (v := 13) fl_X11_42 sh_0 rfl fx_0_4 (by decide) dX11_count_41 ?_
    obtain ⟨r7, hc8, hF⟩ := bp_s hF
    refine V.callVi mf_X1_houses ml_X11_379 sh_13 (s_X1_houses (Or.inr rfl) hc8) (by decide) rfl rfl (Nat.le_of_ble_eq_true rfl) dX11_count_44 ?_
    cases hF
    exact V.iret dX11_count_47
  replace hF := iq c0 hF
  by_cases c1 : x1 = 1
  · replace hF := ip c1 hF
    refine V.tswIn (tgt := 48) c1 dX11_count_1 (by decide) (by decide) rfl rfl ?_
    refine V.aload_n 0 dX11_count_48 rfl rfl ?_
    refine V.getR (v := 13) fl_X11_42 sh_0 rfl fx_0_4 (by decide) dX11_count_49 ?_
    obtain ⟨r9, hc10, hF⟩ := bp_s hF
    refine V.callVi mf_X1_books ml_X11_309 sh_13 (s_X1_books (Or.inr rfl) hc10) (by decide) rfl rfl (Nat.le_of_ble_eq_true rfl) dX11_count_52 ?_
    cases hF
    exact V.iret dX11_count_55
  replace hF := iq c1 hF
  by_cases c2 : x1 = 2
  · replace hF := ip c2 hF
    refine V.tswIn (tgt := 56) c2 dX11_count_1 (by decide) (by decide) rfl rfl ?_
    refine V.aload_n 0 dX11_count_56 rfl rfl ?_
    refine V.getR (v := 16) fl_X11_49 sh_0 rfl fx_0_5 (by decide) dX11_count_57 ?_
    refine V.getI fl_X11_382 sh_16 rfl km_16 dX11_count_60 ?_
    cases hF
    exact V.iret dX11_count_63
  replace hF := iq c2 hF
  by_cases c3 : x1 = 3
  · replace hF := ip c3 hF
    refine V.tswIn (tgt := 64) c3 dX11_count_1 (by decide) (by decide) rfl rfl ?_
    refine V.aload_n 0 dX11_count_64 rfl rfl ?_
    refine V.getR (v := 9) fl_X11_35 sh_0 rfl fx_0_3 (by decide) dX11_count_65 ?_
    refine V.getI fl_X11_383 sh_9 rfl km_9 dX11_count_68 ?_
    cases hF
    exact V.iret dX11_count_71
  replace hF := iq c3 hF
  by_cases c4 : x1 = 4
  · replace hF := ip c4 hF
    refine V.tswIn (tgt := 72) c4 dX11_count_1 (by decide) (by decide) rfl rfl ?_
    refine V.aload_n 0 dX11_count_72 rfl rfl ?_
    refine V.getR (v := 1) fl_X11_10 sh_0 rfl fx_0_0 (by decide) dX11_count_73 ?_
    refine V.getI fl_X11_99 sh_1 rfl km_1 dX11_count_76 ?_
    cases hF
    exact V.iret dX11_count_79
  replace hF := iq c4 hF
  by_cases c5 : x1 = 5
  · replace hF := ip c5 hF
    refine V.tswIn (tgt := 80) c5 dX11_count_1 (by decide) (by decide) rfl rfl ?_
    refine V.aload_n 0 dX11_count_80 rfl rfl ?_
    refine V.getR (v := 16) fl_X11_49 sh_0 rfl fx_0_5 (by decide) dX11_count_81 ?_
    refine V.getI fl_X11_384 sh_16 rfl km_16 dX11_count_84 ?_
    cases hF
    exact V.iret dX11_count_87
  replace hF := iq c5 hF
  refine V.tswOut (tgt := 88) dX11_count_1 (tsw_out (by decide) (by decide) [0, 1, 2, 3, 4, 5] rfl (fun v hv => ?_)) rfl ?_
  · simp only [List.mem_cons, List.not_mem_nil, or_false] at hv
    rcases hv with rfl | rfl | rfl | rfl | rfl | rfl <;> assumption
  refine V.aload_n 0 dX11_count_88 rfl rfl ?_
  refine V.iload_n 1 dX11_count_89 rfl rfl ?_
  obtain ⟨r11, hc12, hF⟩ := bp_s hF
  refine V.callVi mf_X11_countOfNow ml_X11_387 sh_0 (s_X11_countOfNow hc12) (by decide) rfl rfl (Nat.le_of_ble_eq_true rfl) dX11_count_90 ?_
  cases hF
  exact V.iret dX11_count_93
/-! MonsterCotModel.thrown -/
theorem dX12_thrown_0 : decode cX12_thrown 0 = .ok (.aload_n 0, 1) := by decide +kernel
theorem dX12_thrown_1 : decode cX12_thrown 1 = .ok (.getfield 93, 3) := by decide +kernel
theorem dX12_thrown_4 : decode cX12_thrown 4 = .ok (.ireturn, 1) := by decide +kernel
def X12_thrown (h : Mm) : Option Int32 := (some (h.1 251 0))
set_option maxRecDepth 100000 in
set_option maxHeartbeats 4000000 in
theorem s_X12_thrown {X : WX} {o : Mm} {rv : Int32} {h : Mm} (hF : X12_thrown h = some rv) : Sat X yX12_thrown cX12_thrown 1 (some .int) 1 [.ref (xa X 251)] false o h (some (.int rv)) h := by
  unfold X12_thrown at hF
  refine Sat.mk (own := RX12) rfl (by decide +kernel) (Nat.le_of_ble_eq_true rfl) (fun G => ?_)
  refine V.sub (lv2 := [(0, _)]) [0] rfl ?_
  refine V.aload_n 0 dX12_thrown_0 rfl rfl ?_
  refine V.getI fl_X12_93 sh_251 rfl km_251 dX12_thrown_1 ?_
  cases hF
  exact V.iret dX12_thrown_4
/-! MonsterCotModel.isIn -/
theorem dX12_isIn_0 : decode cX12_isIn 0 = .ok (.lload_n 0, 1) := by decide +kernel
theorem dX12_isIn_1 : decode cX12_isIn 1 = .ok (.lload_n 2, 1) := by decide +kernel
theorem dX12_isIn_2 : decode cX12_isIn 2 = .ok (.lcmp, 1) := by decide +kernel
theorem dX12_isIn_3 : decode cX12_isIn 3 = .ok (.ifCond .lt 14, 3) := by decide +kernel
theorem dX12_isIn_6 : decode cX12_isIn 6 = .ok (.lload_n 0, 1) := by decide +kernel
theorem dX12_isIn_7 : decode cX12_isIn 7 = .ok (.lload 4, 2) := by decide +kernel
theorem dX12_isIn_9 : decode cX12_isIn 9 = .ok (.lcmp, 1) := by decide +kernel
theorem dX12_isIn_10 : decode cX12_isIn 10 = .ok (.ifCond .gt 7, 3) := by decide +kernel
theorem dX12_isIn_13 : decode cX12_isIn 13 = .ok (.iconst 1, 1) := by decide +kernel
theorem dX12_isIn_14 : decode cX12_isIn 14 = .ok (.goto 4, 3) := by decide +kernel
theorem dX12_isIn_17 : decode cX12_isIn 17 = .ok (.iconst 0, 1) := by decide +kernel
theorem dX12_isIn_18 : decode cX12_isIn 18 = .ok (.ireturn, 1) := by decide +kernel
def X12_isIn (x0 : Int64) (x2 : Int64) (x4 : Int64) (h : Mm) : Option Bool := (if (lg_cmp x0 x2) < 0 then (some false) else (if 0 < (lg_cmp x0 x4) then (some false) else (some true)))
set_option maxRecDepth 100000 in
set_option maxHeartbeats 4000000 in
theorem s_X12_isIn {X : WX} {o : Mm} {x0 : Int64} {x2 : Int64} {x4 : Int64} {rv : Bool} {h : Mm} (hF : X12_isIn x0 x2 x4 h = some rv) : Sat X yX12_isIn cX12_isIn 6 (some .boolean) 1 [.long x0, .long x2, .long x4] false o h (some (.int (b2i rv))) h := by
  unfold X12_isIn at hF
  refine Sat.mk (own := RX12) rfl (by decide +kernel) (Nat.le_of_ble_eq_true rfl) (fun G => ?_)
  refine V.sub (lv2 := [(0, _), (2, _), (4, _)]) [0, 1, 2] rfl ?_
  refine V.lload_n 0 dX12_isIn_0 rfl rfl ?_
  refine V.lload_n 1 dX12_isIn_1 rfl rfl ?_
  refine V.lcmp dX12_isIn_2 ?_
  refine V.if_lt (tgt := 17) dX12_isIn_3 rfl (fun c => ?_) (fun c => ?_)
  · replace hF := ip c hF
    refine V.iconst (v := 0) dX12_isIn_17 rfl ?_
    cases hF
    exact V.bret dX12_isIn_18
  · replace hF := iq c hF
    refine V.lload_n 0 dX12_isIn_6 rfl rfl ?_
    refine V.lload 2 dX12_isIn_7 rfl ?_
    refine V.lcmp dX12_isIn_9 ?_
    refine V.if_gt (tgt := 17) dX12_isIn_10 rfl (fun c => ?_) (fun c => ?_)
    · replace hF := ip c hF
      refine V.iconst (v := 0) dX12_isIn_17 rfl ?_
      cases hF
      exact V.bret dX12_isIn_18
    · replace hF := iq c hF
      refine V.iconst (v := 1) dX12_isIn_13 rfl ?_
      refine V.goto (tgt := 18) dX12_isIn_14 rfl ?_
      cases hF
      exact V.bret dX12_isIn_18
/-! MonsterCotModel.has -/
theorem dX12_has_0 : decode cX12_has 0 = .ok (.iload_n 0, 1) := by decide +kernel
theorem dX12_has_1 : decode cX12_has 1 = .ok (.iload_n 1, 1) := by decide +kernel
theorem dX12_has_2 : decode cX12_has 2 = .ok (.ishr, 1) := by decide +kernel
theorem dX12_has_3 : decode cX12_has 3 = .ok (.iconst 1, 1) := by decide +kernel
theorem dX12_has_4 : decode cX12_has 4 = .ok (.iand, 1) := by decide +kernel
theorem dX12_has_5 : decode cX12_has 5 = .ok (.iconst 1, 1) := by decide +kernel
theorem dX12_has_6 : decode cX12_has 6 = .ok (.if_icmp .ne 7, 3) := by decide +kernel
theorem dX12_has_9 : decode cX12_has 9 = .ok (.iconst 1, 1) := by decide +kernel
theorem dX12_has_10 : decode cX12_has 10 = .ok (.goto 4, 3) := by decide +kernel
theorem dX12_has_13 : decode cX12_has 13 = .ok (.iconst 0, 1) := by decide +kernel
theorem dX12_has_14 : decode cX12_has 14 = .ok (.ireturn, 1) := by decide +kernel
def X12_has (x0 : Int32) (x1 : Int32) (h : Mm) : Option Bool := (if ((x0 >>> (x1 &&& 31)) &&& (1 : Int32)) = (1 : Int32) then (some true) else (some false))
set_option maxRecDepth 100000 in
set_option maxHeartbeats 4000000 in
theorem s_X12_has {X : WX} {o : Mm} {x0 : Int32} {x1 : Int32} {rv : Bool} {h : Mm} (hF : X12_has x0 x1 h = some rv) : Sat X yX12_has cX12_has 2 (some .boolean) 1 [.int x0, .int x1] false o h (some (.int (b2i rv))) h := by
  unfold X12_has at hF
  refine Sat.mk (own := RX12) rfl (by decide +kernel) (Nat.le_of_ble_eq_true rfl) (fun G => ?_)
  refine V.sub (lv2 := [(0, _), (1, _)]) [0, 1] rfl ?_
  refine V.iload_n 0 dX12_has_0 rfl rfl ?_
  refine V.iload_n 1 dX12_has_1 rfl rfl ?_
  refine V.ishr dX12_has_2 ?_
  refine V.iconst (v := 1) dX12_has_3 rfl ?_
  refine V.iand dX12_has_4 ?_
  refine V.iconst (v := 1) dX12_has_5 rfl ?_
  refine V.icmp_ne (tgt := 13) dX12_has_6 rfl (fun c => ?_) (fun c => ?_)
  · replace hF := iq c hF
    refine V.iconst (v := 0) dX12_has_13 rfl ?_
    cases hF
    exact V.bret dX12_has_14
  · replace hF := ip c hF
    refine V.iconst (v := 1) dX12_has_9 rfl ?_
    refine V.goto (tgt := 14) dX12_has_10 rfl ?_
    cases hF
    exact V.bret dX12_has_14
/-! MonsterCotModel.isAmong -/
theorem dX12_isAmong_0 : decode cX12_isAmong 0 = .ok (.iconst 0, 1) := by decide +kernel
theorem dX12_isAmong_1 : decode cX12_isAmong 1 = .ok (.istore_n 2, 1) := by decide +kernel
theorem dX12_isAmong_2 : decode cX12_isAmong 2 = .ok (.iload_n 2, 1) := by decide +kernel
theorem dX12_isAmong_3 : decode cX12_isAmong 3 = .ok (.aload_n 0, 1) := by decide +kernel
theorem dX12_isAmong_4 : decode cX12_isAmong 4 = .ok (.invokevirtual 96, 3) := by decide +kernel
theorem dX12_isAmong_7 : decode cX12_isAmong 7 = .ok (.if_icmp .ge 20, 3) := by decide +kernel
theorem dX12_isAmong_10 : decode cX12_isAmong 10 = .ok (.aload_n 0, 1) := by decide +kernel
theorem dX12_isAmong_11 : decode cX12_isAmong 11 = .ok (.iload_n 2, 1) := by decide +kernel
theorem dX12_isAmong_12 : decode cX12_isAmong 12 = .ok (.invokevirtual 102, 3) := by decide +kernel
theorem dX12_isAmong_15 : decode cX12_isAmong 15 = .ok (.iload_n 1, 1) := by decide +kernel
theorem dX12_isAmong_16 : decode cX12_isAmong 16 = .ok (.if_icmp .ne 5, 3) := by decide +kernel
theorem dX12_isAmong_19 : decode cX12_isAmong 19 = .ok (.iconst 1, 1) := by decide +kernel
theorem dX12_isAmong_20 : decode cX12_isAmong 20 = .ok (.ireturn, 1) := by decide +kernel
theorem dX12_isAmong_21 : decode cX12_isAmong 21 = .ok (.iinc 2 1, 3) := by decide +kernel
theorem dX12_isAmong_24 : decode cX12_isAmong 24 = .ok (.goto (-22), 3) := by decide +kernel
theorem dX12_isAmong_27 : decode cX12_isAmong 27 = .ok (.iconst 0, 1) := by decide +kernel
theorem dX12_isAmong_28 : decode cX12_isAmong 28 = .ok (.ireturn, 1) := by decide +kernel
def X12_isAmong_2 (n : Nat) (a0 : Nat) : Nat → Int32 → Int32 → Mm → Option Bool
  | 0, _, _, _ => none
  | f + 1, x1, x2, h => (bp (J0_length_8abf5 a0 h) (fun r9 => (if r9 ≤ x2 then (some false) else (bp (J0_charAt_5068e a0 x2 h) (fun r11 => (if r11 = x1 then (some true) else ((X12_isAmong_2 n a0 f) x1 (x2 + (1)) h)))))))
set_option maxRecDepth 100000 in
set_option maxHeartbeats 4000000 in
theorem v_X12_isAmong_2 {X : WX} {G : GX} {o : Mm} {n : Nat} {a0 : Nat} {rv : Bool} {h : Mm} (ha0 : isS a0) : ∀ (f : Nat) (x1 : Int32) (x2 : Int32), X12_isAmong_2 n a0 f x1 x2 h = some rv → V X G RX12 cX12_isAmong 3 (some .boolean) 5 0 0 (QR X G false o (some (.int (b2i rv))) h) false o 2 [(0, .ref (xa X a0)), (1, .int x1), (2, .int x2)] [] h := by
  intro f
  induction f with
  | zero => intro x1 x2 hF; exact nomatch (show (none : Option Bool) = some rv from hF)
  | succ f ih =>
    intro x1 x2 hF
    unfold X12_isAmong_2 at hF
    refine V.iload_n 2 dX12_isAmong_2 rfl rfl ?_
    refine V.aload_n 0 dX12_isAmong_3 rfl rfl ?_
    obtain ⟨r9, hc10, hF⟩ := bp_s hF
    refine V.callTi mf_J0_length_8abf5 ml_X12_96 ha0 (s_J0_length_8abf5 ha0 hc10) (by decide) rfl rfl (Nat.le_of_ble_eq_true rfl) dX12_isAmong_4 ?_
    refine V.icmp_ge (tgt := 27) dX12_isAmong_7 rfl (fun c => ?_) (fun c => ?_)
    · replace hF := ip c hF
      refine V.iconst (v := 0) dX12_isAmong_27 rfl ?_
      cases hF
      exact V.bret dX12_isAmong_28
    · replace hF := iq c hF
      refine V.aload_n 0 dX12_isAmong_10 rfl rfl ?_
      refine V.iload_n 2 dX12_isAmong_11 rfl rfl ?_
      obtain ⟨r11, hc12, hF⟩ := bp_s hF
      refine V.callTi mf_J0_charAt_5068e ml_X12_102 ha0 (s_J0_charAt_5068e ha0 hc12) (by decide) rfl rfl (Nat.le_of_ble_eq_true rfl) dX12_isAmong_12 ?_
      refine V.iload_n 1 dX12_isAmong_15 rfl rfl ?_
      refine V.icmp_ne (tgt := 21) dX12_isAmong_16 rfl (fun c => ?_) (fun c => ?_)
      · replace hF := iq c hF
        refine V.iinc (v := (x2 + (1))) 2 [(2, _), (0, _), (1, _)] dX12_isAmong_21 rfl rfl (by decide) rfl ?_
        refine V.goto (tgt := 2) dX12_isAmong_24 rfl ?_
        exact V.sub [1, 2, 0] rfl (ih _ _ hF)
      · replace hF := ip c hF
        refine V.iconst (v := 1) dX12_isAmong_19 rfl ?_
        cases hF
        exact V.bret dX12_isAmong_20
def X12_isAmong (n : Nat) (a0 : Nat) (x1 : Int32) (h : Mm) : Option Bool := (X12_isAmong_2 n a0 n x1 (0 : Int32) h)
set_option maxRecDepth 100000 in
set_option maxHeartbeats 4000000 in
theorem s_X12_isAmong {X : WX} {o : Mm} {n : Nat} {a0 : Nat} {x1 : Int32} {rv : Bool} {h : Mm} (ha0 : isS a0) (hF : X12_isAmong n a0 x1 h = some rv) : Sat X yX12_isAmong cX12_isAmong 3 (some .boolean) 5 [.ref (xa X a0), .int x1] false o h (some (.int (b2i rv))) h := by
  unfold X12_isAmong at hF
  refine Sat.mk (own := RX12) rfl (by decide +kernel) (Nat.le_of_ble_eq_true rfl) (fun G => ?_)
  refine V.sub (lv2 := [(0, _), (1, _)]) [0, 1] rfl ?_
  refine V.iconst (v := 0) dX12_isAmong_0 rfl ?_
  refine V.istore_n [(2, _), (0, _), (1, _)] dX12_isAmong_1 rfl (by decide) rfl ?_
  exact V.sub [1, 2, 0] rfl (v_X12_isAmong_2 ha0 n _ _ hF)
/-! MonsterCotModel.bytesIn -/
theorem dX12_bytesIn_0 : decode cX12_bytesIn 0 = .ok (.iconst 0, 1) := by decide +kernel
theorem dX12_bytesIn_1 : decode cX12_bytesIn 1 = .ok (.istore_n 1, 1) := by decide +kernel
theorem dX12_bytesIn_2 : decode cX12_bytesIn 2 = .ok (.bipush 24, 2) := by decide +kernel
theorem dX12_bytesIn_4 : decode cX12_bytesIn 4 = .ok (.istore_n 2, 1) := by decide +kernel
theorem dX12_bytesIn_5 : decode cX12_bytesIn 5 = .ok (.iload_n 2, 1) := by decide +kernel
theorem dX12_bytesIn_6 : decode cX12_bytesIn 6 = .ok (.ifCond .lt 27, 3) := by decide +kernel
theorem dX12_bytesIn_9 : decode cX12_bytesIn 9 = .ok (.iload_n 1, 1) := by decide +kernel
theorem dX12_bytesIn_10 : decode cX12_bytesIn 10 = .ok (.iload_n 0, 1) := by decide +kernel
theorem dX12_bytesIn_11 : decode cX12_bytesIn 11 = .ok (.iload_n 2, 1) := by decide +kernel
theorem dX12_bytesIn_12 : decode cX12_bytesIn 12 = .ok (.ishr, 1) := by decide +kernel
theorem dX12_bytesIn_13 : decode cX12_bytesIn 13 = .ok (.sipush 255, 3) := by decide +kernel
theorem dX12_bytesIn_16 : decode cX12_bytesIn 16 = .ok (.iand, 1) := by decide +kernel
theorem dX12_bytesIn_17 : decode cX12_bytesIn 17 = .ok (.ifCond .eq 7, 3) := by decide +kernel
theorem dX12_bytesIn_20 : decode cX12_bytesIn 20 = .ok (.iconst 1, 1) := by decide +kernel
theorem dX12_bytesIn_21 : decode cX12_bytesIn 21 = .ok (.goto 4, 3) := by decide +kernel
theorem dX12_bytesIn_24 : decode cX12_bytesIn 24 = .ok (.iconst 0, 1) := by decide +kernel
theorem dX12_bytesIn_25 : decode cX12_bytesIn 25 = .ok (.iadd, 1) := by decide +kernel
theorem dX12_bytesIn_26 : decode cX12_bytesIn 26 = .ok (.istore_n 1, 1) := by decide +kernel
theorem dX12_bytesIn_27 : decode cX12_bytesIn 27 = .ok (.iinc 2 (-8), 3) := by decide +kernel
theorem dX12_bytesIn_30 : decode cX12_bytesIn 30 = .ok (.goto (-25), 3) := by decide +kernel
theorem dX12_bytesIn_33 : decode cX12_bytesIn 33 = .ok (.iload_n 1, 1) := by decide +kernel
theorem dX12_bytesIn_34 : decode cX12_bytesIn 34 = .ok (.ireturn, 1) := by decide +kernel
def X12_bytesIn_25 (n : Nat) (K5 : Int32 → Int32 → Int32 → Mm → Option Int32) (x0 : Int32) (x2 : Int32) (s0 : Int32) (s1 : Bool) (h : Mm) : Option Int32 := (K5 x0 (s0 + (b2i s1)) (x2 + (-8)) h)
set_option maxRecDepth 100000 in
set_option maxHeartbeats 4000000 in
theorem v_X12_bytesIn_25 {X : WX} {G : GX} {o : Mm} {n : Nat} {K5 : Int32 → Int32 → Int32 → Mm → Option Int32} {rv : Int32} {h : Mm} (hK5 : ∀ (x0 : Int32) (x1 : Int32) (x2 : Int32), K5 x0 x1 x2 h = some rv → V X G RX12 cX12_bytesIn 3 (some .int) 1 0 0 (QR X G false o (some (.int rv)) h) false o 5 [(0, .int x0), (1, .int x1), (2, .int x2)] [] h) {x0 : Int32} {x2 : Int32} {s0 : Int32} {s1 : Bool} (hF : X12_bytesIn_25 n K5 x0 x2 s0 s1 h = some rv) : V X G RX12 cX12_bytesIn 3 (some .int) 1 0 0 (QR X G false o (some (.int rv)) h) false o 25 [(0, .int x0), (2, .int x2)] [.int (b2i s1), .int s0] h := by
  unfold X12_bytesIn_25 at hF
  refine V.iadd dX12_bytesIn_25 ?_
  refine V.istore_n [(1, _), (0, _), (2, _)] dX12_bytesIn_26 rfl (by decide) rfl ?_
  refine V.iinc (v := (x2 + (-8))) 2 [(2, _), (1, _), (0, _)] dX12_bytesIn_27 rfl rfl (by decide) rfl ?_
  refine V.goto (tgt := 5) dX12_bytesIn_30 rfl ?_
  exact V.sub [2, 1, 0] rfl (hK5 _ _ _ hF)
def X12_bytesIn_5 (n : Nat) : Nat → Int32 → Int32 → Int32 → Mm → Option Int32
  | 0, _, _, _, _ => none
  | f + 1, x0, x1, x2, h => (if x2 < 0 then (some x1) else (if ((x0 >>> (x2 &&& 31)) &&& (255 : Int32)) = 0 then (X12_bytesIn_25 n (X12_bytesIn_5 n f) x0 x2 x1 false h) else (X12_bytesIn_25 n (X12_bytesIn_5 n f) x0 x2 x1 true h)))
set_option maxRecDepth 100000 in
set_option maxHeartbeats 4000000 in
theorem v_X12_bytesIn_5 {X : WX} {G : GX} {o : Mm} {n : Nat} {rv : Int32} {h : Mm} : ∀ (f : Nat) (x0 : Int32) (x1 : Int32) (x2 : Int32), X12_bytesIn_5 n f x0 x1 x2 h = some rv → V X G RX12 cX12_bytesIn 3 (some .int) 1 0 0 (QR X G false o (some (.int rv)) h) false o 5 [(0, .int x0), (1, .int x1), (2, .int x2)] [] h := by
  intro f
  induction f with
  | zero => intro x0 x1 x2 hF; exact nomatch (show (none : Option Int32) = some rv from hF)
  | succ f ih =>
    intro x0 x1 x2 hF
    unfold X12_bytesIn_5 at hF
    refine V.iload_n 2 dX12_bytesIn_5 rfl rfl ?_
    refine V.if_lt (tgt := 33) dX12_bytesIn_6 rfl (fun c => ?_) (fun c => ?_)
    · replace hF := ip c hF
      refine V.iload_n 1 dX12_bytesIn_33 rfl rfl ?_
      cases hF
      exact V.iret dX12_bytesIn_34
    · replace hF := iq c hF
      refine V.iload_n 1 dX12_bytesIn_9 rfl rfl ?_
      refine V.iload_n 0 dX12_bytesIn_10 rfl rfl ?_
      refine V.iload_n 2 dX12_bytesIn_11 rfl rfl ?_
      refine V.ishr dX12_bytesIn_12 ?_
      refine V.sipush (v := 255) dX12_bytesIn_13 (by decide) ?_
      refine V.iand dX12_bytesIn_16 ?_
      refine V.if_eq (tgt := 24) dX12_bytesIn_17 rfl (fun c => ?_) (fun c => ?_)
      · replace hF := ip c hF
        refine V.iconst (v := 0) dX12_bytesIn_24 rfl ?_
        exact V.sub [0, 2] rfl (v_X12_bytesIn_25 ih hF)
      · replace hF := iq c hF
        refine V.iconst (v := 1) dX12_bytesIn_20 rfl ?_
        refine V.goto (tgt := 25) dX12_bytesIn_21 rfl ?_
        exact V.sub [0, 2] rfl (v_X12_bytesIn_25 ih hF)
def X12_bytesIn (n : Nat) (x0 : Int32) (h : Mm) : Option Int32 := (X12_bytesIn_5 n n x0 (0 : Int32) (24 : Int32) h)
set_option maxRecDepth 100000 in
set_option maxHeartbeats 4000000 in
theorem s_X12_bytesIn {X : WX} {o : Mm} {n : Nat} {x0 : Int32} {rv : Int32} {h : Mm} (hF : X12_bytesIn n x0 h = some rv) : Sat X yX12_bytesIn cX12_bytesIn 3 (some .int) 1 [.int x0] false o h (some (.int rv)) h := by
  unfold X12_bytesIn at hF
  refine Sat.mk (own := RX12) rfl (by decide +kernel) (Nat.le_of_ble_eq_true rfl) (fun G => ?_)
  refine V.sub (lv2 := [(0, _)]) [0] rfl ?_
  refine V.iconst (v := 0) dX12_bytesIn_0 rfl ?_
  refine V.istore_n [(1, _), (0, _)] dX12_bytesIn_1 rfl (by decide) rfl ?_
  refine V.bipush (v := 24) dX12_bytesIn_2 (by decide) ?_
  refine V.istore_n [(2, _), (1, _), (0, _)] dX12_bytesIn_4 rfl (by decide) rfl ?_
  exact V.sub [2, 1, 0] rfl (v_X12_bytesIn_5 n _ _ _ hF)
/-! MonsterCotModel.put -/
theorem dX12_put_0 : decode cX12_put 0 = .ok (.bipush 24, 2) := by decide +kernel
theorem dX12_put_2 : decode cX12_put 2 = .ok (.istore_n 2, 1) := by decide +kernel
theorem dX12_put_3 : decode cX12_put 3 = .ok (.iload_n 2, 1) := by decide +kernel
theorem dX12_put_4 : decode cX12_put 4 = .ok (.ifCond .lt 45, 3) := by decide +kernel
theorem dX12_put_7 : decode cX12_put 7 = .ok (.iload_n 1, 1) := by decide +kernel
theorem dX12_put_8 : decode cX12_put 8 = .ok (.iload_n 2, 1) := by decide +kernel
theorem dX12_put_9 : decode cX12_put 9 = .ok (.ishr, 1) := by decide +kernel
theorem dX12_put_10 : decode cX12_put 10 = .ok (.sipush 255, 3) := by decide +kernel
theorem dX12_put_13 : decode cX12_put 13 = .ok (.iand, 1) := by decide +kernel
theorem dX12_put_14 : decode cX12_put 14 = .ok (.ifCond .ne 6, 3) := by decide +kernel
theorem dX12_put_17 : decode cX12_put 17 = .ok (.goto 26, 3) := by decide +kernel
theorem dX12_put_20 : decode cX12_put 20 = .ok (.aload_n 0, 1) := by decide +kernel
theorem dX12_put_21 : decode cX12_put 21 = .ok (.getfield 9, 3) := by decide +kernel
theorem dX12_put_24 : decode cX12_put 24 = .ok (.aload_n 0, 1) := by decide +kernel
theorem dX12_put_25 : decode cX12_put 25 = .ok (.getfield 106, 3) := by decide +kernel
theorem dX12_put_28 : decode cX12_put 28 = .ok (.iload_n 1, 1) := by decide +kernel
theorem dX12_put_29 : decode cX12_put 29 = .ok (.iload_n 2, 1) := by decide +kernel
theorem dX12_put_30 : decode cX12_put 30 = .ok (.ishr, 1) := by decide +kernel
theorem dX12_put_31 : decode cX12_put 31 = .ok (.i2b, 1) := by decide +kernel
theorem dX12_put_32 : decode cX12_put 32 = .ok (.bastore, 1) := by decide +kernel
theorem dX12_put_33 : decode cX12_put 33 = .ok (.aload_n 0, 1) := by decide +kernel
theorem dX12_put_34 : decode cX12_put 34 = .ok (.dup, 1) := by decide +kernel
theorem dX12_put_35 : decode cX12_put 35 = .ok (.getfield 106, 3) := by decide +kernel
theorem dX12_put_38 : decode cX12_put 38 = .ok (.iconst 1, 1) := by decide +kernel
theorem dX12_put_39 : decode cX12_put 39 = .ok (.iadd, 1) := by decide +kernel
theorem dX12_put_40 : decode cX12_put 40 = .ok (.putfield 106, 3) := by decide +kernel
theorem dX12_put_43 : decode cX12_put 43 = .ok (.iinc 2 (-8), 3) := by decide +kernel
theorem dX12_put_46 : decode cX12_put 46 = .ok (.goto (-43), 3) := by decide +kernel
theorem dX12_put_49 : decode cX12_put 49 = .ok (.return_, 1) := by decide +kernel
def X12_put_43 (n : Nat) (K3 : Int32 → Int32 → Mm → Option (Unit × Mm)) (x1 : Int32) (x2 : Int32) (h : Mm) : Option (Unit × Mm) := (K3 x1 (x2 + (-8)) h)
set_option maxRecDepth 100000 in
set_option maxHeartbeats 4000000 in
theorem v_X12_put_43 {X : WX} {G : GX} {o : Mm} {n : Nat} {K3 : Int32 → Int32 → Mm → Option (Unit × Mm)} {rv : Unit} {hz : Mm} (hK3 : ∀ (x1 : Int32) (x2 : Int32) (h : Mm), K3 x1 x2 h = some (rv, hz) → V X G RX12 cX12_put 3 (none) 1 0 0 (QR X G false o none hz) false o 3 [(0, .ref (xa X 251)), (1, .int x1), (2, .int x2)] [] h) {x1 : Int32} {x2 : Int32} {h : Mm} (hF : X12_put_43 n K3 x1 x2 h = some (rv, hz)) : V X G RX12 cX12_put 3 (none) 1 0 0 (QR X G false o none hz) false o 43 [(0, .ref (xa X 251)), (1, .int x1), (2, .int x2)] [] h := by
  unfold X12_put_43 at hF
  refine V.iinc (v := (x2 + (-8))) 2 [(2, _), (0, _), (1, _)] dX12_put_43 rfl rfl (by decide) rfl ?_
  refine V.goto (tgt := 3) dX12_put_46 rfl ?_
  exact V.sub [1, 2, 0] rfl (hK3 _ _ _ hF)
def X12_put_3 (n : Nat) : Nat → Int32 → Int32 → Mm → Option (Unit × Mm)
  | 0, _, _, _ => none
  | f + 1, x1, x2, h => (if x2 < 0 then (some ((), h)) else (if ((x1 >>> (x2 &&& 31)) &&& (255 : Int32)) = 0 then (X12_put_43 n (X12_put_3 n f) x1 x2 h) else (if inB (h.1 251 6) (aln 252) then (X12_put_43 n (X12_put_3 n f) x1 x2 (wI (wI h 252 (h.1 251 6).toNatClampNeg (vp_nar .byte (x1 >>> (x2 &&& 31)).toInt8.toInt32)) 251 6 (((wI h 252 (h.1 251 6).toNatClampNeg (vp_nar .byte (x1 >>> (x2 &&& 31)).toInt8.toInt32)).1 251 6) + (1 : Int32)))) else none)))
set_option maxRecDepth 100000 in
set_option maxHeartbeats 4000000 in
theorem v_X12_put_3 {X : WX} {G : GX} {o : Mm} {n : Nat} {rv : Unit} {hz : Mm} : ∀ (f : Nat) (x1 : Int32) (x2 : Int32) (h : Mm), X12_put_3 n f x1 x2 h = some (rv, hz) → V X G RX12 cX12_put 3 (none) 1 0 0 (QR X G false o none hz) false o 3 [(0, .ref (xa X 251)), (1, .int x1), (2, .int x2)] [] h := by
  intro f
  induction f with
  | zero => intro x1 x2 h hF; exact nomatch (show (none : Option (Unit × Mm)) = some (rv, hz) from hF)
  | succ f ih =>
    intro x1 x2 h hF
    unfold X12_put_3 at hF
    refine V.iload_n 2 dX12_put_3 rfl rfl ?_
    refine V.if_lt (tgt := 49) dX12_put_4 rfl (fun c => ?_) (fun c => ?_)
    · replace hF := ip c hF
      cases hF
      exact V.vret dX12_put_49
    · replace hF := iq c hF
      refine V.iload_n 1 dX12_put_7 rfl rfl ?_
      refine V.iload_n 2 dX12_put_8 rfl rfl ?_
      refine V.ishr dX12_put_9 ?_
      refine V.sipush (v := 255) dX12_put_10 (by decide) ?_
      refine V.iand dX12_put_13 ?_
      refine V.if_ne (tgt := 20) dX12_put_14 rfl (fun c => ?_) (fun c => ?_)
      · replace hF := iq c hF
        refine V.aload_n 0 dX12_put_20 rfl rfl ?_
        refine V.getR (v := 252) fl_X12_9 sh_251 rfl fx_251_1 (by decide) dX12_put_21 ?_
        refine V.aload_n 0 dX12_put_24 rfl rfl ?_
        refine V.getI fl_X12_106 sh_251 rfl km_251 dX12_put_25 ?_
        refine V.iload_n 1 dX12_put_28 rfl rfl ?_
        refine V.iload_n 2 dX12_put_29 rfl rfl ?_
        refine V.ishr dX12_put_30 ?_
        refine V.i2b dX12_put_31 ?_
        obtain ⟨hk, hF⟩ := ck hF
        refine V.bast io_252 hk dX12_put_32 ?_
        refine V.aload_n 0 dX12_put_33 rfl rfl ?_
        refine V.dup dX12_put_34 rfl ?_
        refine V.getI fl_X12_106 sh_251 rfl km_251 dX12_put_35 ?_
        refine V.iconst (v := 1) dX12_put_38 rfl ?_
        refine V.iadd dX12_put_39 ?_
        refine V.putI fl_X12_106 rfl (tyX12_ok 6 (by decide)) rfl rfl sh_251 rfl km_251 dX12_put_40 ?_
        exact (v_X12_put_43 ih hF)
      · replace hF := ip c hF
        refine V.goto (tgt := 43) dX12_put_17 rfl ?_
        exact (v_X12_put_43 ih hF)
def X12_put (n : Nat) (x1 : Int32) (h : Mm) : Option (Unit × Mm) := (X12_put_3 n n x1 (24 : Int32) h)
set_option maxRecDepth 100000 in
set_option maxHeartbeats 4000000 in
theorem s_X12_put {X : WX} {o : Mm} {n : Nat} {x1 : Int32} {rv : Unit} {hz : Mm} {h : Mm} (hF : X12_put n x1 h = some (rv, hz)) : Sat X yX12_put cX12_put 3 (none) 1 [.ref (xa X 251), .int x1] false o h none hz := by
  unfold X12_put at hF
  refine Sat.mk (own := RX12) rfl (by decide +kernel) (Nat.le_of_ble_eq_true rfl) (fun G => ?_)
  refine V.sub (lv2 := [(0, _), (1, _)]) [0, 1] rfl ?_
  refine V.bipush (v := 24) dX12_put_0 (by decide) ?_
  refine V.istore_n [(2, _), (0, _), (1, _)] dX12_put_2 rfl (by decide) rfl ?_
  exact V.sub [1, 2, 0] rfl (v_X12_put_3 n _ _ _ hF)
/-! MonsterCotModel.feed -/
theorem dX12_feed_0 : decode cX12_feed 0 = .ok (.aload_n 0, 1) := by decide +kernel
theorem dX12_feed_1 : decode cX12_feed 1 = .ok (.iconst 0, 1) := by decide +kernel
theorem dX12_feed_2 : decode cX12_feed 2 = .ok (.putfield 93, 3) := by decide +kernel
theorem dX12_feed_5 : decode cX12_feed 5 = .ok (.aload_n 0, 1) := by decide +kernel
theorem dX12_feed_6 : decode cX12_feed 6 = .ok (.getfield 106, 3) := by decide +kernel
theorem dX12_feed_9 : decode cX12_feed 9 = .ok (.iload_n 1, 1) := by decide +kernel
theorem dX12_feed_10 : decode cX12_feed 10 = .ok (.invokestatic 108, 3) := by decide +kernel
theorem dX12_feed_13 : decode cX12_feed 13 = .ok (.iadd, 1) := by decide +kernel
theorem dX12_feed_14 : decode cX12_feed 14 = .ok (.iload_n 2, 1) := by decide +kernel
theorem dX12_feed_15 : decode cX12_feed 15 = .ok (.invokestatic 108, 3) := by decide +kernel
theorem dX12_feed_18 : decode cX12_feed 18 = .ok (.iadd, 1) := by decide +kernel
theorem dX12_feed_19 : decode cX12_feed 19 = .ok (.iload_n 3, 1) := by decide +kernel
theorem dX12_feed_20 : decode cX12_feed 20 = .ok (.invokestatic 108, 3) := by decide +kernel
theorem dX12_feed_23 : decode cX12_feed 23 = .ok (.iadd, 1) := by decide +kernel
theorem dX12_feed_24 : decode cX12_feed 24 = .ok (.iload 4, 2) := by decide +kernel
theorem dX12_feed_26 : decode cX12_feed 26 = .ok (.invokestatic 108, 3) := by decide +kernel
theorem dX12_feed_29 : decode cX12_feed 29 = .ok (.iadd, 1) := by decide +kernel
theorem dX12_feed_30 : decode cX12_feed 30 = .ok (.iload 5, 2) := by decide +kernel
theorem dX12_feed_32 : decode cX12_feed 32 = .ok (.invokestatic 108, 3) := by decide +kernel
theorem dX12_feed_35 : decode cX12_feed 35 = .ok (.iadd, 1) := by decide +kernel
theorem dX12_feed_36 : decode cX12_feed 36 = .ok (.sipush 240, 3) := by decide +kernel
theorem dX12_feed_39 : decode cX12_feed 39 = .ok (.if_icmp .le 5, 3) := by decide +kernel
theorem dX12_feed_42 : decode cX12_feed 42 = .ok (.iconst (-1), 1) := by decide +kernel
theorem dX12_feed_43 : decode cX12_feed 43 = .ok (.ireturn, 1) := by decide +kernel
theorem dX12_feed_44 : decode cX12_feed 44 = .ok (.aload_n 0, 1) := by decide +kernel
theorem dX12_feed_45 : decode cX12_feed 45 = .ok (.iload_n 1, 1) := by decide +kernel
theorem dX12_feed_46 : decode cX12_feed 46 = .ok (.invokevirtual 112, 3) := by decide +kernel
theorem dX12_feed_49 : decode cX12_feed 49 = .ok (.aload_n 0, 1) := by decide +kernel
theorem dX12_feed_50 : decode cX12_feed 50 = .ok (.iload_n 2, 1) := by decide +kernel
theorem dX12_feed_51 : decode cX12_feed 51 = .ok (.invokevirtual 112, 3) := by decide +kernel
theorem dX12_feed_54 : decode cX12_feed 54 = .ok (.aload_n 0, 1) := by decide +kernel
theorem dX12_feed_55 : decode cX12_feed 55 = .ok (.iload_n 3, 1) := by decide +kernel
theorem dX12_feed_56 : decode cX12_feed 56 = .ok (.invokevirtual 112, 3) := by decide +kernel
theorem dX12_feed_59 : decode cX12_feed 59 = .ok (.aload_n 0, 1) := by decide +kernel
theorem dX12_feed_60 : decode cX12_feed 60 = .ok (.iload 4, 2) := by decide +kernel
theorem dX12_feed_62 : decode cX12_feed 62 = .ok (.invokevirtual 112, 3) := by decide +kernel
theorem dX12_feed_65 : decode cX12_feed 65 = .ok (.aload_n 0, 1) := by decide +kernel
theorem dX12_feed_66 : decode cX12_feed 66 = .ok (.iload 5, 2) := by decide +kernel
theorem dX12_feed_68 : decode cX12_feed 68 = .ok (.invokevirtual 112, 3) := by decide +kernel
theorem dX12_feed_71 : decode cX12_feed 71 = .ok (.aload_n 0, 1) := by decide +kernel
theorem dX12_feed_72 : decode cX12_feed 72 = .ok (.getfield 106, 3) := by decide +kernel
theorem dX12_feed_75 : decode cX12_feed 75 = .ok (.ireturn, 1) := by decide +kernel
def X12_feed (n : Nat) (x1 : Int32) (x2 : Int32) (x3 : Int32) (x4 : Int32) (x5 : Int32) (h : Mm) : Option (Int32 × Mm) := (bp (X12_bytesIn n x1 (wI h 251 0 (0 : Int32))) (fun r26 => (bp (X12_bytesIn n x2 (wI h 251 0 (0 : Int32))) (fun r28 => (bp (X12_bytesIn n x3 (wI h 251 0 (0 : Int32))) (fun r30 => (bp (X12_bytesIn n x4 (wI h 251 0 (0 : Int32))) (fun r32 => (bp (X12_bytesIn n x5 (wI h 251 0 (0 : Int32))) (fun r34 => (if (((((((wI h 251 0 (0 : Int32)).1 251 6) + r26) + r28) + r30) + r32) + r34) ≤ (240 : Int32) then (bd (X12_put n x1 (wI h 251 0 (0 : Int32))) (fun _ h38 => (bd (X12_put n x2 h38) (fun _ h41 => (bd (X12_put n x3 h41) (fun _ h44 => (bd (X12_put n x4 h44) (fun _ h47 => (bd (X12_put n x5 h47) (fun _ h50 => (some ((h50.1 251 6), h50)))))))))))) else (some ((-1 : Int32), (wI h 251 0 (0 : Int32)))))))))))))))
set_option maxRecDepth 100000 in
set_option maxHeartbeats 4000000 in
theorem s_X12_feed {X : WX} {o : Mm} {n : Nat} {x1 : Int32} {x2 : Int32} {x3 : Int32} {x4 : Int32} {x5 : Int32} {rv : Int32} {hz : Mm} {h : Mm} (hF : X12_feed n x1 x2 x3 x4 x5 h = some (rv, hz)) : Sat X yX12_feed cX12_feed 6 (some .int) 2 [.ref (xa X 251), .int x1, .int x2, .int x3, .int x4, .int x5] false o h (some (.int rv)) hz := by
  unfold X12_feed at hF
  refine Sat.mk (own := RX12) rfl (by decide +kernel) (Nat.le_of_ble_eq_true rfl) (fun G => ?_)
  refine V.sub (lv2 := [(0, _), (1, _), (2, _), (3, _), (4, _), (5, _)]) [0, 1, 2, 3, 4, 5] rfl ?_
  refine V.aload_n 0 dX12_feed_0 rfl rfl ?_
  refine V.iconst (v := 0) dX12_feed_1 rfl ?_
  refine V.putI fl_X12_93 rfl (tyX12_ok 0 (by decide)) rfl rfl sh_251 rfl km_251 dX12_feed_2 ?_
  refine V.aload_n 0 dX12_feed_5 rfl rfl ?_
  refine V.getI fl_X12_106 sh_251 rfl km_251 dX12_feed_6 ?_
  refine V.iload_n 1 dX12_feed_9 rfl rfl ?_
  obtain ⟨r26, hc27, hF⟩ := bp_s hF
  refine V.callSi mf_X12_bytesIn ml_X12_108 (s_X12_bytesIn hc27) (by decide) rfl rfl (Nat.le_of_ble_eq_true rfl) dX12_feed_10 ?_
  refine V.iadd dX12_feed_13 ?_
  refine V.iload_n 2 dX12_feed_14 rfl rfl ?_
  obtain ⟨r28, hc29, hF⟩ := bp_s hF
  refine V.callSi mf_X12_bytesIn ml_X12_108 (s_X12_bytesIn hc29) (by decide) rfl rfl (Nat.le_of_ble_eq_true rfl) dX12_feed_15 ?_
  refine V.iadd dX12_feed_18 ?_
  refine V.iload_n 3 dX12_feed_19 rfl rfl ?_
  obtain ⟨r30, hc31, hF⟩ := bp_s hF
  refine V.callSi mf_X12_bytesIn ml_X12_108 (s_X12_bytesIn hc31) (by decide) rfl rfl (Nat.le_of_ble_eq_true rfl) dX12_feed_20 ?_
  refine V.iadd dX12_feed_23 ?_
  refine V.iload 4 dX12_feed_24 rfl ?_
  obtain ⟨r32, hc33, hF⟩ := bp_s hF
  refine V.callSi mf_X12_bytesIn ml_X12_108 (s_X12_bytesIn hc33) (by decide) rfl rfl (Nat.le_of_ble_eq_true rfl) dX12_feed_26 ?_
  refine V.iadd dX12_feed_29 ?_
  refine V.iload 5 dX12_feed_30 rfl ?_
  obtain ⟨r34, hc35, hF⟩ := bp_s hF
  refine V.callSi mf_X12_bytesIn ml_X12_108 (s_X12_bytesIn hc35) (by decide) rfl rfl (Nat.le_of_ble_eq_true rfl) dX12_feed_32 ?_
  refine V.iadd dX12_feed_35 ?_
  refine V.sipush (v := 240) dX12_feed_36 (by decide) ?_
  refine V.icmp_le (tgt := 44) dX12_feed_39 rfl (fun c => ?_) (fun c => ?_)
  · replace hF := ip c hF
    refine V.aload_n 0 dX12_feed_44 rfl rfl ?_
    refine V.iload_n 1 dX12_feed_45 rfl rfl ?_
    obtain ⟨r36, h38, hc37, hF⟩ := bd_s hF
    refine V.callVv mf_X12_put ml_X12_112 sh_251 (s_X12_put hc37) (by decide) rfl rfl (Nat.le_of_ble_eq_true rfl) dX12_feed_46 ?_
    refine V.aload_n 0 dX12_feed_49 rfl rfl ?_
    refine V.iload_n 2 dX12_feed_50 rfl rfl ?_
    obtain ⟨r39, h41, hc40, hF⟩ := bd_s hF
    refine V.callVv mf_X12_put ml_X12_112 sh_251 (s_X12_put hc40) (by decide) rfl rfl (Nat.le_of_ble_eq_true rfl) dX12_feed_51 ?_
    refine V.aload_n 0 dX12_feed_54 rfl rfl ?_
    refine V.iload_n 3 dX12_feed_55 rfl rfl ?_
    obtain ⟨r42, h44, hc43, hF⟩ := bd_s hF
    refine V.callVv mf_X12_put ml_X12_112 sh_251 (s_X12_put hc43) (by decide) rfl rfl (Nat.le_of_ble_eq_true rfl) dX12_feed_56 ?_
    refine V.aload_n 0 dX12_feed_59 rfl rfl ?_
    refine V.iload 4 dX12_feed_60 rfl ?_
    obtain ⟨r45, h47, hc46, hF⟩ := bd_s hF
    refine V.callVv mf_X12_put ml_X12_112 sh_251 (s_X12_put hc46) (by decide) rfl rfl (Nat.le_of_ble_eq_true rfl) dX12_feed_62 ?_
    refine V.aload_n 0 dX12_feed_65 rfl rfl ?_
    refine V.iload 5 dX12_feed_66 rfl ?_
    obtain ⟨r48, h50, hc49, hF⟩ := bd_s hF
    refine V.callVv mf_X12_put ml_X12_112 sh_251 (s_X12_put hc49) (by decide) rfl rfl (Nat.le_of_ble_eq_true rfl) dX12_feed_68 ?_
    refine V.aload_n 0 dX12_feed_71 rfl rfl ?_
    refine V.getI fl_X12_106 sh_251 rfl km_251 dX12_feed_72 ?_
    cases hF
    exact V.iret dX12_feed_75
  · replace hF := iq c hF
    refine V.iconst (v := -1) dX12_feed_42 rfl ?_
    cases hF
    exact V.iret dX12_feed_43
/-! MonsterCotModel.end -/
theorem dX12_end_0 : decode cX12_end 0 = .ok (.aload_n 0, 1) := by decide +kernel
theorem dX12_end_1 : decode cX12_end 1 = .ok (.iconst 0, 1) := by decide +kernel
theorem dX12_end_2 : decode cX12_end 2 = .ok (.putfield 93, 3) := by decide +kernel
theorem dX12_end_5 : decode cX12_end 5 = .ok (.iload_n 1, 1) := by decide +kernel
theorem dX12_end_6 : decode cX12_end 6 = .ok (.ifCond .lt 11, 3) := by decide +kernel
theorem dX12_end_9 : decode cX12_end 9 = .ok (.iload_n 1, 1) := by decide +kernel
theorem dX12_end_10 : decode cX12_end 10 = .ok (.aload_n 0, 1) := by decide +kernel
theorem dX12_end_11 : decode cX12_end 11 = .ok (.getfield 106, 3) := by decide +kernel
theorem dX12_end_14 : decode cX12_end 14 = .ok (.if_icmp .le 5, 3) := by decide +kernel
theorem dX12_end_17 : decode cX12_end 17 = .ok (.iconst 0, 1) := by decide +kernel
theorem dX12_end_18 : decode cX12_end 18 = .ok (.ireturn, 1) := by decide +kernel
theorem dX12_end_19 : decode cX12_end 19 = .ok (.aload_n 0, 1) := by decide +kernel
theorem dX12_end_20 : decode cX12_end 20 = .ok (.iload_n 1, 1) := by decide +kernel
theorem dX12_end_21 : decode cX12_end 21 = .ok (.putfield 106, 3) := by decide +kernel
theorem dX12_end_24 : decode cX12_end 24 = .ok (.iconst 1, 1) := by decide +kernel
theorem dX12_end_25 : decode cX12_end 25 = .ok (.ireturn, 1) := by decide +kernel
def X12_end (x1 : Int32) (h : Mm) : Option (Bool × Mm) := (if x1 < 0 then (some (false, (wI h 251 0 (0 : Int32)))) else (if x1 ≤ ((wI h 251 0 (0 : Int32)).1 251 6) then (some (true, (wI (wI h 251 0 (0 : Int32)) 251 6 x1))) else (some (false, (wI h 251 0 (0 : Int32))))))
set_option maxRecDepth 100000 in
set_option maxHeartbeats 4000000 in
theorem s_X12_end {X : WX} {o : Mm} {x1 : Int32} {rv : Bool} {hz : Mm} {h : Mm} (hF : X12_end x1 h = some (rv, hz)) : Sat X yX12_end cX12_end 2 (some .boolean) 1 [.ref (xa X 251), .int x1] false o h (some (.int (b2i rv))) hz := by
  unfold X12_end at hF
  refine Sat.mk (own := RX12) rfl (by decide +kernel) (Nat.le_of_ble_eq_true rfl) (fun G => ?_)
  refine V.sub (lv2 := [(0, _), (1, _)]) [0, 1] rfl ?_
  refine V.aload_n 0 dX12_end_0 rfl rfl ?_
  refine V.iconst (v := 0) dX12_end_1 rfl ?_
  refine V.putI fl_X12_93 rfl (tyX12_ok 0 (by decide)) rfl rfl sh_251 rfl km_251 dX12_end_2 ?_
  refine V.iload_n 1 dX12_end_5 rfl rfl ?_
  refine V.if_lt (tgt := 17) dX12_end_6 rfl (fun c => ?_) (fun c => ?_)
  · replace hF := ip c hF
    refine V.iconst (v := 0) dX12_end_17 rfl ?_
    cases hF
    exact V.bret dX12_end_18
  · replace hF := iq c hF
    refine V.iload_n 1 dX12_end_9 rfl rfl ?_
    refine V.aload_n 0 dX12_end_10 rfl rfl ?_
    refine V.getI fl_X12_106 sh_251 rfl km_251 dX12_end_11 ?_
    refine V.icmp_le (tgt := 19) dX12_end_14 rfl (fun c => ?_) (fun c => ?_)
    · replace hF := ip c hF
      refine V.aload_n 0 dX12_end_19 rfl rfl ?_
      refine V.iload_n 1 dX12_end_20 rfl rfl ?_
      refine V.putI fl_X12_106 rfl (tyX12_ok 6 (by decide)) rfl rfl sh_251 rfl km_251 dX12_end_21 ?_
      refine V.iconst (v := 1) dX12_end_24 rfl ?_
      cases hF
      exact V.bret dX12_end_25
    · replace hF := iq c hF
      refine V.iconst (v := 0) dX12_end_17 rfl ?_
      cases hF
      exact V.bret dX12_end_18
/-! MonsterCotModel.look -/
theorem dX12_look_0 : decode cX12_look 0 = .ok (.aload_n 0, 1) := by decide +kernel
theorem dX12_look_1 : decode cX12_look 1 = .ok (.getfield 116, 3) := by decide +kernel
theorem dX12_look_4 : decode cX12_look 4 = .ok (.aload_n 0, 1) := by decide +kernel
theorem dX12_look_5 : decode cX12_look 5 = .ok (.getfield 119, 3) := by decide +kernel
theorem dX12_look_8 : decode cX12_look 8 = .ok (.if_icmp .ge 35, 3) := by decide +kernel
theorem dX12_look_11 : decode cX12_look 11 = .ok (.aload_n 0, 1) := by decide +kernel
theorem dX12_look_12 : decode cX12_look 12 = .ok (.getfield 23, 3) := by decide +kernel
theorem dX12_look_15 : decode cX12_look 15 = .ok (.aload_n 0, 1) := by decide +kernel
theorem dX12_look_16 : decode cX12_look 16 = .ok (.getfield 122, 3) := by decide +kernel
theorem dX12_look_19 : decode cX12_look 19 = .ok (.aload_n 0, 1) := by decide +kernel
theorem dX12_look_20 : decode cX12_look 20 = .ok (.getfield 116, 3) := by decide +kernel
theorem dX12_look_23 : decode cX12_look 23 = .ok (.iadd, 1) := by decide +kernel
theorem dX12_look_24 : decode cX12_look 24 = .ok (.baload, 1) := by decide +kernel
theorem dX12_look_25 : decode cX12_look 25 = .ok (.bipush 32, 2) := by decide +kernel
theorem dX12_look_27 : decode cX12_look 27 = .ok (.if_icmp .ne 16, 3) := by decide +kernel
theorem dX12_look_30 : decode cX12_look 30 = .ok (.aload_n 0, 1) := by decide +kernel
theorem dX12_look_31 : decode cX12_look 31 = .ok (.dup, 1) := by decide +kernel
theorem dX12_look_32 : decode cX12_look 32 = .ok (.getfield 116, 3) := by decide +kernel
theorem dX12_look_35 : decode cX12_look 35 = .ok (.iconst 1, 1) := by decide +kernel
theorem dX12_look_36 : decode cX12_look 36 = .ok (.iadd, 1) := by decide +kernel
theorem dX12_look_37 : decode cX12_look 37 = .ok (.putfield 116, 3) := by decide +kernel
theorem dX12_look_40 : decode cX12_look 40 = .ok (.goto (-40), 3) := by decide +kernel
theorem dX12_look_43 : decode cX12_look 43 = .ok (.aload_n 0, 1) := by decide +kernel
theorem dX12_look_44 : decode cX12_look 44 = .ok (.getfield 116, 3) := by decide +kernel
theorem dX12_look_47 : decode cX12_look 47 = .ok (.aload_n 0, 1) := by decide +kernel
theorem dX12_look_48 : decode cX12_look 48 = .ok (.getfield 119, 3) := by decide +kernel
theorem dX12_look_51 : decode cX12_look 51 = .ok (.if_icmp .ge 24, 3) := by decide +kernel
theorem dX12_look_54 : decode cX12_look 54 = .ok (.aload_n 0, 1) := by decide +kernel
theorem dX12_look_55 : decode cX12_look 55 = .ok (.getfield 23, 3) := by decide +kernel
theorem dX12_look_58 : decode cX12_look 58 = .ok (.aload_n 0, 1) := by decide +kernel
theorem dX12_look_59 : decode cX12_look 59 = .ok (.getfield 122, 3) := by decide +kernel
theorem dX12_look_62 : decode cX12_look 62 = .ok (.aload_n 0, 1) := by decide +kernel
theorem dX12_look_63 : decode cX12_look 63 = .ok (.getfield 116, 3) := by decide +kernel
theorem dX12_look_66 : decode cX12_look 66 = .ok (.iadd, 1) := by decide +kernel
theorem dX12_look_67 : decode cX12_look 67 = .ok (.baload, 1) := by decide +kernel
theorem dX12_look_68 : decode cX12_look 68 = .ok (.sipush 255, 3) := by decide +kernel
theorem dX12_look_71 : decode cX12_look 71 = .ok (.iand, 1) := by decide +kernel
theorem dX12_look_72 : decode cX12_look 72 = .ok (.goto 4, 3) := by decide +kernel
theorem dX12_look_75 : decode cX12_look 75 = .ok (.iconst (-1), 1) := by decide +kernel
theorem dX12_look_76 : decode cX12_look 76 = .ok (.ireturn, 1) := by decide +kernel
def X12_look_43 (n : Nat) (h : Mm) : Option (Int32 × Mm) := (if (h.1 251 9) ≤ (h.1 251 10) then (some ((-1 : Int32), h)) else (bp (txt (h.1 251 5)) (fun t4 => (if inB ((h.1 251 8) + (h.1 251 10)) (aln t4) then (some (((h.1 t4 ((h.1 251 8) + (h.1 251 10)).toNatClampNeg) &&& (255 : Int32)), h)) else none))))
set_option maxRecDepth 100000 in
set_option maxHeartbeats 4000000 in
theorem v_X12_look_43 {X : WX} {G : GX} {o : Mm} {n : Nat} {rv : Int32} {hz : Mm} {h : Mm} (hF : X12_look_43 n h = some (rv, hz)) : V X G RX12 cX12_look 1 (some .int) 1 0 0 (QR X G false o (some (.int rv)) hz) false o 43 [(0, .ref (xa X 251))] [] h := by
  unfold X12_look_43 at hF
  refine V.aload_n 0 dX12_look_43 rfl rfl ?_
  refine V.getI fl_X12_116 sh_251 rfl km_251 dX12_look_44 ?_
  refine V.aload_n 0 dX12_look_47 rfl rfl ?_
  refine V.getI fl_X12_119 sh_251 rfl km_251 dX12_look_48 ?_
  refine V.icmp_ge (tgt := 75) dX12_look_51 rfl (fun c => ?_) (fun c => ?_)
  · replace hF := ip c hF
    refine V.iconst (v := -1) dX12_look_75 rfl ?_
    cases hF
    exact V.iret dX12_look_76
  · replace hF := iq c hF
    refine V.aload_n 0 dX12_look_54 rfl rfl ?_
    obtain ⟨t4, htt4, hF⟩ := bp_s hF
    refine V.getN fl_X12_23 sh_251 rfl km_251 t4 (txt_s htt4).1 (txt_s htt4).2.lt2 dX12_look_55 ?_
    refine V.aload_n 0 dX12_look_58 rfl rfl ?_
    refine V.getI fl_X12_122 sh_251 rfl km_251 dX12_look_59 ?_
    refine V.aload_n 0 dX12_look_62 rfl rfl ?_
    refine V.getI fl_X12_116 sh_251 rfl km_251 dX12_look_63 ?_
    refine V.iadd dX12_look_66 ?_
    obtain ⟨hk, hF⟩ := ck hF
    refine V.bald (txt_s htt4).2 hk dX12_look_67 ?_
    refine V.sipush (v := 255) dX12_look_68 (by decide) ?_
    refine V.iand dX12_look_71 ?_
    refine V.goto (tgt := 76) dX12_look_72 rfl ?_
    cases hF
    exact V.iret dX12_look_76
def X12_look_0 (n : Nat) : Nat → Mm → Option (Int32 × Mm)
  | 0, _ => none
  | f + 1, h => (if (h.1 251 9) ≤ (h.1 251 10) then (X12_look_43 n h) else (bp (txt (h.1 251 5)) (fun t5 => (if inB ((h.1 251 8) + (h.1 251 10)) (aln t5) then (if (h.1 t5 ((h.1 251 8) + (h.1 251 10)).toNatClampNeg) = (32 : Int32) then ((X12_look_0 n f) (wI h 251 10 ((h.1 251 10) + (1 : Int32)))) else (X12_look_43 n h)) else none))))
set_option maxRecDepth 100000 in
set_option maxHeartbeats 4000000 in
theorem v_X12_look_0 {X : WX} {G : GX} {o : Mm} {n : Nat} {rv : Int32} {hz : Mm} : ∀ (f : Nat) (h : Mm), X12_look_0 n f  h = some (rv, hz) → V X G RX12 cX12_look 1 (some .int) 1 0 0 (QR X G false o (some (.int rv)) hz) false o 0 [(0, .ref (xa X 251))] [] h := by
  intro f
  induction f with
  | zero => intro  h hF; exact nomatch (show (none : Option (Int32 × Mm)) = some (rv, hz) from hF)
  | succ f ih =>
    intro  h hF
    unfold X12_look_0 at hF
    refine V.aload_n 0 dX12_look_0 rfl rfl ?_
    refine V.getI fl_X12_116 sh_251 rfl km_251 dX12_look_1 ?_
    refine V.aload_n 0 dX12_look_4 rfl rfl ?_
    refine V.getI fl_X12_119 sh_251 rfl km_251 dX12_look_5 ?_
    refine V.icmp_ge (tgt := 43) dX12_look_8 rfl (fun c => ?_) (fun c => ?_)
    · replace hF := ip c hF
      exact (v_X12_look_43 hF)
    · replace hF := iq c hF
      refine V.aload_n 0 dX12_look_11 rfl rfl ?_
      obtain ⟨t5, htt5, hF⟩ := bp_s hF
      refine V.getN fl_X12_23 sh_251 rfl km_251 t5 (txt_s htt5).1 (txt_s htt5).2.lt2 dX12_look_12 ?_
      refine V.aload_n 0 dX12_look_15 rfl rfl ?_
      refine V.getI fl_X12_122 sh_251 rfl km_251 dX12_look_16 ?_
      refine V.aload_n 0 dX12_look_19 rfl rfl ?_
      refine V.getI fl_X12_116 sh_251 rfl km_251 dX12_look_20 ?_
      refine V.iadd dX12_look_23 ?_
      obtain ⟨hk, hF⟩ := ck hF
      refine V.bald (txt_s htt5).2 hk dX12_look_24 ?_
      refine V.bipush (v := 32) dX12_look_25 (by decide) ?_
      refine V.icmp_ne (tgt := 43) dX12_look_27 rfl (fun c => ?_) (fun c => ?_)
      · replace hF := iq c hF
        exact (v_X12_look_43 hF)
      · replace hF := ip c hF
        refine V.aload_n 0 dX12_look_30 rfl rfl ?_
        refine V.dup dX12_look_31 rfl ?_
        refine V.getI fl_X12_116 sh_251 rfl km_251 dX12_look_32 ?_
        refine V.iconst (v := 1) dX12_look_35 rfl ?_
        refine V.iadd dX12_look_36 ?_
        refine V.putI fl_X12_116 rfl (tyX12_ok 10 (by decide)) rfl rfl sh_251 rfl km_251 dX12_look_37 ?_
        refine V.goto (tgt := 0) dX12_look_40 rfl ?_
        exact ih _ hF
def X12_look (n : Nat) (h : Mm) : Option (Int32 × Mm) := (X12_look_0 n n h)
set_option maxRecDepth 100000 in
set_option maxHeartbeats 4000000 in
theorem s_X12_look {X : WX} {o : Mm} {n : Nat} {rv : Int32} {hz : Mm} {h : Mm} (hF : X12_look n h = some (rv, hz)) : Sat X yX12_look cX12_look 1 (some .int) 1 [.ref (xa X 251)] false o h (some (.int rv)) hz := by
  unfold X12_look at hF
  refine Sat.mk (own := RX12) rfl (by decide +kernel) (Nat.le_of_ble_eq_true rfl) (fun G => ?_)
  refine V.sub (lv2 := [(0, _)]) [0] rfl ?_
  exact (v_X12_look_0 n _ hF)
/-! MonsterCotModel.fails -/
theorem dX12_fails_0 : decode cX12_fails 0 = .ok (.aload_n 0, 1) := by decide +kernel
theorem dX12_fails_1 : decode cX12_fails 1 = .ok (.getfield 125, 3) := by decide +kernel
theorem dX12_fails_4 : decode cX12_fails 4 = .ok (.iconst (-1), 1) := by decide +kernel
theorem dX12_fails_5 : decode cX12_fails 5 = .ok (.if_icmp .ne 11, 3) := by decide +kernel
theorem dX12_fails_8 : decode cX12_fails 8 = .ok (.aload_n 0, 1) := by decide +kernel
theorem dX12_fails_9 : decode cX12_fails 9 = .ok (.aload_n 0, 1) := by decide +kernel
theorem dX12_fails_10 : decode cX12_fails 10 = .ok (.getfield 116, 3) := by decide +kernel
theorem dX12_fails_13 : decode cX12_fails 13 = .ok (.putfield 125, 3) := by decide +kernel
theorem dX12_fails_16 : decode cX12_fails 16 = .ok (.iconst 0, 1) := by decide +kernel
theorem dX12_fails_17 : decode cX12_fails 17 = .ok (.ireturn, 1) := by decide +kernel
def X12_fails (h : Mm) : Option (Bool × Mm) := (if (h.1 251 11) = (-1 : Int32) then (some (false, (wI h 251 11 (h.1 251 10)))) else (some (false, h)))
set_option maxRecDepth 100000 in
set_option maxHeartbeats 4000000 in
theorem s_X12_fails {X : WX} {o : Mm} {rv : Bool} {hz : Mm} {h : Mm} (hF : X12_fails h = some (rv, hz)) : Sat X yX12_fails cX12_fails 1 (some .boolean) 1 [.ref (xa X 251)] false o h (some (.int (b2i rv))) hz := by
  unfold X12_fails at hF
  refine Sat.mk (own := RX12) rfl (by decide +kernel) (Nat.le_of_ble_eq_true rfl) (fun G => ?_)
  refine V.sub (lv2 := [(0, _)]) [0] rfl ?_
  refine V.aload_n 0 dX12_fails_0 rfl rfl ?_
  refine V.getI fl_X12_125 sh_251 rfl km_251 dX12_fails_1 ?_
  refine V.iconst (v := -1) dX12_fails_4 rfl ?_
  refine V.icmp_ne (tgt := 16) dX12_fails_5 rfl (fun c => ?_) (fun c => ?_)
  · replace hF := iq c hF
    refine V.iconst (v := 0) dX12_fails_16 rfl ?_
    cases hF
    exact V.bret dX12_fails_17
  · replace hF := ip c hF
    refine V.aload_n 0 dX12_fails_8 rfl rfl ?_
    refine V.aload_n 0 dX12_fails_9 rfl rfl ?_
    refine V.getI fl_X12_116 sh_251 rfl km_251 dX12_fails_10 ?_
    refine V.putI fl_X12_125 rfl (tyX12_ok 11 (by decide)) rfl rfl sh_251 rfl km_251 dX12_fails_13 ?_
    refine V.iconst (v := 0) dX12_fails_16 rfl ?_
    cases hF
    exact V.bret dX12_fails_17
/-! MonsterCotModel.goesIn -/
theorem dX12_goesIn_0 : decode cX12_goesIn 0 = .ok (.aload_n 0, 1) := by decide +kernel
theorem dX12_goesIn_1 : decode cX12_goesIn 1 = .ok (.getfield 128, 3) := by decide +kernel
theorem dX12_goesIn_4 : decode cX12_goesIn 4 = .ok (.bipush 6, 2) := by decide +kernel
theorem dX12_goesIn_6 : decode cX12_goesIn 6 = .ok (.if_icmp .ne 8, 3) := by decide +kernel
theorem dX12_goesIn_9 : decode cX12_goesIn 9 = .ok (.aload_n 0, 1) := by decide +kernel
theorem dX12_goesIn_10 : decode cX12_goesIn 10 = .ok (.invokevirtual 131, 3) := by decide +kernel
theorem dX12_goesIn_13 : decode cX12_goesIn 13 = .ok (.ireturn, 1) := by decide +kernel
theorem dX12_goesIn_14 : decode cX12_goesIn 14 = .ok (.aload_n 0, 1) := by decide +kernel
theorem dX12_goesIn_15 : decode cX12_goesIn 15 = .ok (.dup, 1) := by decide +kernel
theorem dX12_goesIn_16 : decode cX12_goesIn 16 = .ok (.getfield 128, 3) := by decide +kernel
theorem dX12_goesIn_19 : decode cX12_goesIn 19 = .ok (.iconst 1, 1) := by decide +kernel
theorem dX12_goesIn_20 : decode cX12_goesIn 20 = .ok (.iadd, 1) := by decide +kernel
theorem dX12_goesIn_21 : decode cX12_goesIn 21 = .ok (.putfield 128, 3) := by decide +kernel
theorem dX12_goesIn_24 : decode cX12_goesIn 24 = .ok (.aload_n 0, 1) := by decide +kernel
theorem dX12_goesIn_25 : decode cX12_goesIn 25 = .ok (.dup, 1) := by decide +kernel
theorem dX12_goesIn_26 : decode cX12_goesIn 26 = .ok (.getfield 116, 3) := by decide +kernel
theorem dX12_goesIn_29 : decode cX12_goesIn 29 = .ok (.iconst 1, 1) := by decide +kernel
theorem dX12_goesIn_30 : decode cX12_goesIn 30 = .ok (.iadd, 1) := by decide +kernel
theorem dX12_goesIn_31 : decode cX12_goesIn 31 = .ok (.putfield 116, 3) := by decide +kernel
theorem dX12_goesIn_34 : decode cX12_goesIn 34 = .ok (.iconst 1, 1) := by decide +kernel
theorem dX12_goesIn_35 : decode cX12_goesIn 35 = .ok (.ireturn, 1) := by decide +kernel
def X12_goesIn (h : Mm) : Option (Bool × Mm) := (if (h.1 251 12) = (6 : Int32) then (bd (X12_fails h) (fun r4 h6 => (some (r4, h6)))) else (some (true, (wI (wI h 251 12 ((h.1 251 12) + (1 : Int32))) 251 10 (((wI h 251 12 ((h.1 251 12) + (1 : Int32))).1 251 10) + (1 : Int32))))))
set_option maxRecDepth 100000 in
set_option maxHeartbeats 4000000 in
theorem s_X12_goesIn {X : WX} {o : Mm} {rv : Bool} {hz : Mm} {h : Mm} (hF : X12_goesIn h = some (rv, hz)) : Sat X yX12_goesIn cX12_goesIn 1 (some .boolean) 2 [.ref (xa X 251)] false o h (some (.int (b2i rv))) hz := by
  unfold X12_goesIn at hF
  refine Sat.mk (own := RX12) rfl (by decide +kernel) (Nat.le_of_ble_eq_true rfl) (fun G => ?_)
  refine V.sub (lv2 := [(0, _)]) [0] rfl ?_
  refine V.aload_n 0 dX12_goesIn_0 rfl rfl ?_
  refine V.getI fl_X12_128 sh_251 rfl km_251 dX12_goesIn_1 ?_
  refine V.bipush (v := 6) dX12_goesIn_4 (by decide) ?_
  refine V.icmp_ne (tgt := 14) dX12_goesIn_6 rfl (fun c => ?_) (fun c => ?_)
  · replace hF := iq c hF
    refine V.aload_n 0 dX12_goesIn_14 rfl rfl ?_
    refine V.dup dX12_goesIn_15 rfl ?_
    refine V.getI fl_X12_128 sh_251 rfl km_251 dX12_goesIn_16 ?_
    refine V.iconst (v := 1) dX12_goesIn_19 rfl ?_
    refine V.iadd dX12_goesIn_20 ?_
    refine V.putI fl_X12_128 rfl (tyX12_ok 12 (by decide)) rfl rfl sh_251 rfl km_251 dX12_goesIn_21 ?_
    refine V.aload_n 0 dX12_goesIn_24 rfl rfl ?_
    refine V.dup dX12_goesIn_25 rfl ?_
    refine V.getI fl_X12_116 sh_251 rfl km_251 dX12_goesIn_26 ?_
    refine V.iconst (v := 1) dX12_goesIn_29 rfl ?_
    refine V.iadd dX12_goesIn_30 ?_
    refine V.putI fl_X12_116 rfl (tyX12_ok 10 (by decide)) rfl rfl sh_251 rfl km_251 dX12_goesIn_31 ?_
    refine V.iconst (v := 1) dX12_goesIn_34 rfl ?_
    cases hF
    exact V.bret dX12_goesIn_35
  · replace hF := ip c hF
    refine V.aload_n 0 dX12_goesIn_9 rfl rfl ?_
    obtain ⟨r4, h6, hc5, hF⟩ := bd_s hF
    refine V.callVi mf_X12_fails ml_X12_131 sh_251 (s_X12_fails hc5) (by decide) rfl rfl (Nat.le_of_ble_eq_true rfl) dX12_goesIn_10 ?_
    cases hF
    exact V.bret dX12_goesIn_13
/-! MonsterCotModel.takes -/
theorem dX12_takes_0 : decode cX12_takes 0 = .ok (.aload_n 0, 1) := by decide +kernel
theorem dX12_takes_1 : decode cX12_takes 1 = .ok (.getfield 125, 3) := by decide +kernel
theorem dX12_takes_4 : decode cX12_takes 4 = .ok (.iconst (-1), 1) := by decide +kernel
theorem dX12_takes_5 : decode cX12_takes 5 = .ok (.if_icmp .ne 11, 3) := by decide +kernel
theorem dX12_takes_8 : decode cX12_takes 8 = .ok (.aload_n 0, 1) := by decide +kernel
theorem dX12_takes_9 : decode cX12_takes 9 = .ok (.invokevirtual 135, 3) := by decide +kernel
theorem dX12_takes_12 : decode cX12_takes 12 = .ok (.iload_n 1, 1) := by decide +kernel
theorem dX12_takes_13 : decode cX12_takes 13 = .ok (.if_icmp .eq 8, 3) := by decide +kernel
theorem dX12_takes_16 : decode cX12_takes 16 = .ok (.aload_n 0, 1) := by decide +kernel
theorem dX12_takes_17 : decode cX12_takes 17 = .ok (.invokevirtual 131, 3) := by decide +kernel
theorem dX12_takes_20 : decode cX12_takes 20 = .ok (.ireturn, 1) := by decide +kernel
theorem dX12_takes_21 : decode cX12_takes 21 = .ok (.aload_n 0, 1) := by decide +kernel
theorem dX12_takes_22 : decode cX12_takes 22 = .ok (.dup, 1) := by decide +kernel
theorem dX12_takes_23 : decode cX12_takes 23 = .ok (.getfield 116, 3) := by decide +kernel
theorem dX12_takes_26 : decode cX12_takes 26 = .ok (.iconst 1, 1) := by decide +kernel
theorem dX12_takes_27 : decode cX12_takes 27 = .ok (.iadd, 1) := by decide +kernel
theorem dX12_takes_28 : decode cX12_takes 28 = .ok (.putfield 116, 3) := by decide +kernel
theorem dX12_takes_31 : decode cX12_takes 31 = .ok (.iconst 1, 1) := by decide +kernel
theorem dX12_takes_32 : decode cX12_takes 32 = .ok (.ireturn, 1) := by decide +kernel
def X12_takes_16 (n : Nat) (h : Mm) : Option (Bool × Mm) := (bd (X12_fails h) (fun r13 h15 => (some (r13, h15))))
set_option maxRecDepth 100000 in
set_option maxHeartbeats 4000000 in
theorem v_X12_takes_16 {X : WX} {G : GX} {o : Mm} {n : Nat} {rv : Bool} {hz : Mm} {h : Mm} (hF : X12_takes_16 n h = some (rv, hz)) : V X G RX12 cX12_takes 2 (some .boolean) 2 0 0 (QR X G false o (some (.int (b2i rv))) hz) false o 16 [(0, .ref (xa X 251))] [] h := by
  unfold X12_takes_16 at hF
  refine V.aload_n 0 dX12_takes_16 rfl rfl ?_
  obtain ⟨r13, h15, hc14, hF⟩ := bd_s hF
  refine V.callVi mf_X12_fails ml_X12_131 sh_251 (s_X12_fails hc14) (by decide) rfl rfl (Nat.le_of_ble_eq_true rfl) dX12_takes_17 ?_
  cases hF
  exact V.bret dX12_takes_20
def X12_takes (n : Nat) (x1 : Int32) (h : Mm) : Option (Bool × Mm) := (if (h.1 251 11) = (-1 : Int32) then (bd (X12_look n h) (fun r16 h18 => (if r16 = x1 then (some (true, (wI h18 251 10 ((h18.1 251 10) + (1 : Int32))))) else (X12_takes_16 n h18)))) else (X12_takes_16 n h))
set_option maxRecDepth 100000 in
set_option maxHeartbeats 4000000 in
theorem s_X12_takes {X : WX} {o : Mm} {n : Nat} {x1 : Int32} {rv : Bool} {hz : Mm} {h : Mm} (hF : X12_takes n x1 h = some (rv, hz)) : Sat X yX12_takes cX12_takes 2 (some .boolean) 2 [.ref (xa X 251), .int x1] false o h (some (.int (b2i rv))) hz := by
  unfold X12_takes at hF
  refine Sat.mk (own := RX12) rfl (by decide +kernel) (Nat.le_of_ble_eq_true rfl) (fun G => ?_)
  refine V.sub (lv2 := [(0, _), (1, _)]) [0, 1] rfl ?_
  refine V.aload_n 0 dX12_takes_0 rfl rfl ?_
  refine V.getI fl_X12_125 sh_251 rfl km_251 dX12_takes_1 ?_
  refine V.iconst (v := -1) dX12_takes_4 rfl ?_
  refine V.icmp_ne (tgt := 16) dX12_takes_5 rfl (fun c => ?_) (fun c => ?_)
  · replace hF := iq c hF
    exact V.sub [0] rfl (v_X12_takes_16 hF)
  · replace hF := ip c hF
    refine V.aload_n 0 dX12_takes_8 rfl rfl ?_
    obtain ⟨r16, h18, hc17, hF⟩ := bd_s hF
    refine V.callVi mf_X12_look ml_X12_135 sh_251 (s_X12_look hc17) (by decide) rfl rfl (Nat.le_of_ble_eq_true rfl) dX12_takes_9 ?_
    refine V.iload_n 1 dX12_takes_12 rfl rfl ?_
    refine V.icmp_eq (tgt := 21) dX12_takes_13 rfl (fun c => ?_) (fun c => ?_)
    · replace hF := ip c hF
      refine V.aload_n 0 dX12_takes_21 rfl rfl ?_
      refine V.dup dX12_takes_22 rfl ?_
      refine V.getI fl_X12_116 sh_251 rfl km_251 dX12_takes_23 ?_
      refine V.iconst (v := 1) dX12_takes_26 rfl ?_
      refine V.iadd dX12_takes_27 ?_
      refine V.putI fl_X12_116 rfl (tyX12_ok 10 (by decide)) rfl rfl sh_251 rfl km_251 dX12_takes_28 ?_
      refine V.iconst (v := 1) dX12_takes_31 rfl ?_
      cases hF
      exact V.bret dX12_takes_32
    · replace hF := iq c hF
      exact V.sub [0] rfl (v_X12_takes_16 hF)
/-! MonsterCotModel.isDigit -/
theorem dX12_isDigit_0 : decode cX12_isDigit 0 = .ok (.aload_n 0, 1) := by decide +kernel
theorem dX12_isDigit_1 : decode cX12_isDigit 1 = .ok (.getfield 116, 3) := by decide +kernel
theorem dX12_isDigit_4 : decode cX12_isDigit 4 = .ok (.aload_n 0, 1) := by decide +kernel
theorem dX12_isDigit_5 : decode cX12_isDigit 5 = .ok (.getfield 119, 3) := by decide +kernel
theorem dX12_isDigit_8 : decode cX12_isDigit 8 = .ok (.if_icmp .ge 45, 3) := by decide +kernel
theorem dX12_isDigit_11 : decode cX12_isDigit 11 = .ok (.aload_n 0, 1) := by decide +kernel
theorem dX12_isDigit_12 : decode cX12_isDigit 12 = .ok (.getfield 23, 3) := by decide +kernel
theorem dX12_isDigit_15 : decode cX12_isDigit 15 = .ok (.aload_n 0, 1) := by decide +kernel
theorem dX12_isDigit_16 : decode cX12_isDigit 16 = .ok (.getfield 122, 3) := by decide +kernel
theorem dX12_isDigit_19 : decode cX12_isDigit 19 = .ok (.aload_n 0, 1) := by decide +kernel
theorem dX12_isDigit_20 : decode cX12_isDigit 20 = .ok (.getfield 116, 3) := by decide +kernel
theorem dX12_isDigit_23 : decode cX12_isDigit 23 = .ok (.iadd, 1) := by decide +kernel
theorem dX12_isDigit_24 : decode cX12_isDigit 24 = .ok (.baload, 1) := by decide +kernel
theorem dX12_isDigit_25 : decode cX12_isDigit 25 = .ok (.bipush 48, 2) := by decide +kernel
theorem dX12_isDigit_27 : decode cX12_isDigit 27 = .ok (.if_icmp .lt 26, 3) := by decide +kernel
theorem dX12_isDigit_30 : decode cX12_isDigit 30 = .ok (.aload_n 0, 1) := by decide +kernel
theorem dX12_isDigit_31 : decode cX12_isDigit 31 = .ok (.getfield 23, 3) := by decide +kernel
theorem dX12_isDigit_34 : decode cX12_isDigit 34 = .ok (.aload_n 0, 1) := by decide +kernel
theorem dX12_isDigit_35 : decode cX12_isDigit 35 = .ok (.getfield 122, 3) := by decide +kernel
theorem dX12_isDigit_38 : decode cX12_isDigit 38 = .ok (.aload_n 0, 1) := by decide +kernel
theorem dX12_isDigit_39 : decode cX12_isDigit 39 = .ok (.getfield 116, 3) := by decide +kernel
theorem dX12_isDigit_42 : decode cX12_isDigit 42 = .ok (.iadd, 1) := by decide +kernel
theorem dX12_isDigit_43 : decode cX12_isDigit 43 = .ok (.baload, 1) := by decide +kernel
theorem dX12_isDigit_44 : decode cX12_isDigit 44 = .ok (.bipush 57, 2) := by decide +kernel
theorem dX12_isDigit_46 : decode cX12_isDigit 46 = .ok (.if_icmp .gt 7, 3) := by decide +kernel
theorem dX12_isDigit_49 : decode cX12_isDigit 49 = .ok (.iconst 1, 1) := by decide +kernel
theorem dX12_isDigit_50 : decode cX12_isDigit 50 = .ok (.goto 4, 3) := by decide +kernel
theorem dX12_isDigit_53 : decode cX12_isDigit 53 = .ok (.iconst 0, 1) := by decide +kernel
theorem dX12_isDigit_54 : decode cX12_isDigit 54 = .ok (.ireturn, 1) := by decide +kernel
def X12_isDigit (h : Mm) : Option Bool := (if (h.1 251 9) ≤ (h.1 251 10) then (some false) else (bp (txt (h.1 251 5)) (fun t3 => (if inB ((h.1 251 8) + (h.1 251 10)) (aln t3) then (if (h.1 t3 ((h.1 251 8) + (h.1 251 10)).toNatClampNeg) < (48 : Int32) then (some false) else (bp (txt (h.1 251 5)) (fun t4 => (if inB ((h.1 251 8) + (h.1 251 10)) (aln t4) then (if (57 : Int32) < (h.1 t4 ((h.1 251 8) + (h.1 251 10)).toNatClampNeg) then (some false) else (some true)) else none)))) else none))))
set_option maxRecDepth 100000 in
set_option maxHeartbeats 4000000 in
theorem s_X12_isDigit {X : WX} {o : Mm} {rv : Bool} {h : Mm} (hF : X12_isDigit h = some rv) : Sat X yX12_isDigit cX12_isDigit 1 (some .boolean) 1 [.ref (xa X 251)] false o h (some (.int (b2i rv))) h := by
  unfold X12_isDigit at hF
  refine Sat.mk (own := RX12) rfl (by decide +kernel) (Nat.le_of_ble_eq_true rfl) (fun G => ?_)
  refine V.sub (lv2 := [(0, _)]) [0] rfl ?_
  refine V.aload_n 0 dX12_isDigit_0 rfl rfl ?_
  refine V.getI fl_X12_116 sh_251 rfl km_251 dX12_isDigit_1 ?_
  refine V.aload_n 0 dX12_isDigit_4 rfl rfl ?_
  refine V.getI fl_X12_119 sh_251 rfl km_251 dX12_isDigit_5 ?_
  refine V.icmp_ge (tgt := 53) dX12_isDigit_8 rfl (fun c => ?_) (fun c => ?_)
  · replace hF := ip c hF
    refine V.iconst (v := 0) dX12_isDigit_53 rfl ?_
    cases hF
    exact V.bret dX12_isDigit_54
  · replace hF := iq c hF
    refine V.aload_n 0 dX12_isDigit_11 rfl rfl ?_
    obtain ⟨t3, htt3, hF⟩ := bp_s hF
    refine V.getN fl_X12_23 sh_251 rfl km_251 t3 (txt_s htt3).1 (txt_s htt3).2.lt2 dX12_isDigit_12 ?_
    refine V.aload_n 0 dX12_isDigit_15 rfl rfl ?_
    refine V.getI fl_X12_122 sh_251 rfl km_251 dX12_isDigit_16 ?_
    refine V.aload_n 0 dX12_isDigit_19 rfl rfl ?_
    refine V.getI fl_X12_116 sh_251 rfl km_251 dX12_isDigit_20 ?_
    refine V.iadd dX12_isDigit_23 ?_
    obtain ⟨hk, hF⟩ := ck hF
    refine V.bald (txt_s htt3).2 hk dX12_isDigit_24 ?_
    refine V.bipush (v := 48) dX12_isDigit_25 (by decide) ?_
    refine V.icmp_lt (tgt := 53) dX12_isDigit_27 rfl (fun c => ?_) (fun c => ?_)
    · replace hF := ip c hF
      refine V.iconst (v := 0) dX12_isDigit_53 rfl ?_
      cases hF
      exact V.bret dX12_isDigit_54
    · replace hF := iq c hF
      refine V.aload_n 0 dX12_isDigit_30 rfl rfl ?_
      obtain ⟨t4, htt4, hF⟩ := bp_s hF
      refine V.getN fl_X12_23 sh_251 rfl km_251 t4 (txt_s htt4).1 (txt_s htt4).2.lt2 dX12_isDigit_31 ?_
      refine V.aload_n 0 dX12_isDigit_34 rfl rfl ?_
      refine V.getI fl_X12_122 sh_251 rfl km_251 dX12_isDigit_35 ?_
      refine V.aload_n 0 dX12_isDigit_38 rfl rfl ?_
      refine V.getI fl_X12_116 sh_251 rfl km_251 dX12_isDigit_39 ?_
      refine V.iadd dX12_isDigit_42 ?_
      obtain ⟨hk, hF⟩ := ck hF
      refine V.bald (txt_s htt4).2 hk dX12_isDigit_43 ?_
      refine V.bipush (v := 57) dX12_isDigit_44 (by decide) ?_
      refine V.icmp_gt (tgt := 53) dX12_isDigit_46 rfl (fun c => ?_) (fun c => ?_)
      · replace hF := ip c hF
        refine V.iconst (v := 0) dX12_isDigit_53 rfl ?_
        cases hF
        exact V.bret dX12_isDigit_54
      · replace hF := iq c hF
        refine V.iconst (v := 1) dX12_isDigit_49 rfl ?_
        refine V.goto (tgt := 54) dX12_isDigit_50 rfl ?_
        cases hF
        exact V.bret dX12_isDigit_54
/-! MonsterCotModel.within -/
theorem dX12_within_0 : decode cX12_within 0 = .ok (.ldc2_w 138, 3) := by decide +kernel
theorem dX12_within_3 : decode cX12_within 3 = .ok (.ldc2_w 140, 3) := by decide +kernel
theorem dX12_within_6 : decode cX12_within 6 = .ok (.lload_n 0, 1) := by decide +kernel
theorem dX12_within_7 : decode cX12_within 7 = .ok (.invokestatic 142, 3) := by decide +kernel
theorem dX12_within_10 : decode cX12_within 10 = .ok (.invokestatic 148, 3) := by decide +kernel
theorem dX12_within_13 : decode cX12_within 13 = .ok (.l2i, 1) := by decide +kernel
theorem dX12_within_14 : decode cX12_within 14 = .ok (.ireturn, 1) := by decide +kernel
def X12_within (x0 : Int64) (h : Mm) : Option Int32 := (bp (J9_min_f86c9 (1000000 : Int64) x0 h) (fun r5 => (bp (J9_max_f86c9 (-1000000 : Int64) r5 h) (fun r7 => (some r7.toInt32)))))
set_option maxRecDepth 100000 in
set_option maxHeartbeats 4000000 in
theorem s_X12_within {X : WX} {o : Mm} {x0 : Int64} {rv : Int32} {h : Mm} (hF : X12_within x0 h = some rv) : Sat X yX12_within cX12_within 2 (some .int) 2 [.long x0] false o h (some (.int rv)) h := by
  unfold X12_within at hF
  refine Sat.mk (own := RX12) rfl (by decide +kernel) (Nat.le_of_ble_eq_true rfl) (fun G => ?_)
  refine V.sub (lv2 := [(0, _)]) [0] rfl ?_
  refine V.ldc2 (v := -1000000) dX12_within_0 kc_X12_138 ?_
  refine V.ldc2 (v := 1000000) dX12_within_3 kc_X12_140 ?_
  refine V.lload_n 0 dX12_within_6 rfl rfl ?_
  obtain ⟨r5, hc6, hF⟩ := bp_s hF
  refine V.callSi mf_J9_min_f86c9 ml_X12_142 (s_J9_min_f86c9 hc6) (by decide) rfl rfl (Nat.le_of_ble_eq_true rfl) dX12_within_7 ?_
  obtain ⟨r7, hc8, hF⟩ := bp_s hF
  refine V.callSi mf_J9_max_f86c9 ml_X12_148 (s_J9_max_f86c9 hc8) (by decide) rfl rfl (Nat.le_of_ble_eq_true rfl) dX12_within_10 ?_
  refine V.l2i dX12_within_13 ?_
  cases hF
  exact V.iret dX12_within_14
/-! MonsterCotModel.term -/
theorem dX12_term_0 : decode cX12_term 0 = .ok (.aload_n 0, 1) := by decide +kernel
theorem dX12_term_1 : decode cX12_term 1 = .ok (.invokevirtual 168, 3) := by decide +kernel
theorem dX12_term_4 : decode cX12_term 4 = .ok (.istore_n 1, 1) := by decide +kernel
theorem dX12_term_5 : decode cX12_term 5 = .ok (.aload_n 0, 1) := by decide +kernel
theorem dX12_term_6 : decode cX12_term 6 = .ok (.getfield 125, 3) := by decide +kernel
theorem dX12_term_9 : decode cX12_term 9 = .ok (.iconst (-1), 1) := by decide +kernel
theorem dX12_term_10 : decode cX12_term 10 = .ok (.if_icmp .ne 84, 3) := by decide +kernel
theorem dX12_term_13 : decode cX12_term 13 = .ok (.aload_n 0, 1) := by decide +kernel
theorem dX12_term_14 : decode cX12_term 14 = .ok (.invokevirtual 135, 3) := by decide +kernel
theorem dX12_term_17 : decode cX12_term 17 = .ok (.bipush 42, 2) := by decide +kernel
theorem dX12_term_19 : decode cX12_term 19 = .ok (.if_icmp .eq 12, 3) := by decide +kernel
theorem dX12_term_22 : decode cX12_term 22 = .ok (.aload_n 0, 1) := by decide +kernel
theorem dX12_term_23 : decode cX12_term 23 = .ok (.invokevirtual 135, 3) := by decide +kernel
theorem dX12_term_26 : decode cX12_term 26 = .ok (.bipush 47, 2) := by decide +kernel
theorem dX12_term_28 : decode cX12_term 28 = .ok (.if_icmp .ne 66, 3) := by decide +kernel
theorem dX12_term_31 : decode cX12_term 31 = .ok (.aload_n 0, 1) := by decide +kernel
theorem dX12_term_32 : decode cX12_term 32 = .ok (.invokevirtual 135, 3) := by decide +kernel
theorem dX12_term_35 : decode cX12_term 35 = .ok (.bipush 42, 2) := by decide +kernel
theorem dX12_term_37 : decode cX12_term 37 = .ok (.if_icmp .ne 7, 3) := by decide +kernel
theorem dX12_term_40 : decode cX12_term 40 = .ok (.iconst 1, 1) := by decide +kernel
theorem dX12_term_41 : decode cX12_term 41 = .ok (.goto 4, 3) := by decide +kernel
theorem dX12_term_44 : decode cX12_term 44 = .ok (.iconst 0, 1) := by decide +kernel
theorem dX12_term_45 : decode cX12_term 45 = .ok (.istore_n 2, 1) := by decide +kernel
theorem dX12_term_46 : decode cX12_term 46 = .ok (.aload_n 0, 1) := by decide +kernel
theorem dX12_term_47 : decode cX12_term 47 = .ok (.dup, 1) := by decide +kernel
theorem dX12_term_48 : decode cX12_term 48 = .ok (.getfield 116, 3) := by decide +kernel
theorem dX12_term_51 : decode cX12_term 51 = .ok (.iconst 1, 1) := by decide +kernel
theorem dX12_term_52 : decode cX12_term 52 = .ok (.iadd, 1) := by decide +kernel
theorem dX12_term_53 : decode cX12_term 53 = .ok (.putfield 116, 3) := by decide +kernel
theorem dX12_term_56 : decode cX12_term 56 = .ok (.aload_n 0, 1) := by decide +kernel
theorem dX12_term_57 : decode cX12_term 57 = .ok (.invokevirtual 168, 3) := by decide +kernel
theorem dX12_term_60 : decode cX12_term 60 = .ok (.i2l, 1) := by decide +kernel
theorem dX12_term_61 : decode cX12_term 61 = .ok (.lstore_n 3, 1) := by decide +kernel
theorem dX12_term_62 : decode cX12_term 62 = .ok (.iload_n 2, 1) := by decide +kernel
theorem dX12_term_63 : decode cX12_term 63 = .ok (.ifCond .eq 10, 3) := by decide +kernel
theorem dX12_term_66 : decode cX12_term 66 = .ok (.iload_n 1, 1) := by decide +kernel
theorem dX12_term_67 : decode cX12_term 67 = .ok (.i2l, 1) := by decide +kernel
theorem dX12_term_68 : decode cX12_term 68 = .ok (.lload_n 3, 1) := by decide +kernel
theorem dX12_term_69 : decode cX12_term 69 = .ok (.lmul, 1) := by decide +kernel
theorem dX12_term_70 : decode cX12_term 70 = .ok (.goto 17, 3) := by decide +kernel
theorem dX12_term_73 : decode cX12_term 73 = .ok (.lload_n 3, 1) := by decide +kernel
theorem dX12_term_74 : decode cX12_term 74 = .ok (.lconst 0, 1) := by decide +kernel
theorem dX12_term_75 : decode cX12_term 75 = .ok (.lcmp, 1) := by decide +kernel
theorem dX12_term_76 : decode cX12_term 76 = .ok (.ifCond .ne 7, 3) := by decide +kernel
theorem dX12_term_79 : decode cX12_term 79 = .ok (.lconst 0, 1) := by decide +kernel
theorem dX12_term_80 : decode cX12_term 80 = .ok (.goto 7, 3) := by decide +kernel
theorem dX12_term_83 : decode cX12_term 83 = .ok (.iload_n 1, 1) := by decide +kernel
theorem dX12_term_84 : decode cX12_term 84 = .ok (.i2l, 1) := by decide +kernel
theorem dX12_term_85 : decode cX12_term 85 = .ok (.lload_n 3, 1) := by decide +kernel
theorem dX12_term_86 : decode cX12_term 86 = .ok (.ldiv, 1) := by decide +kernel
theorem dX12_term_87 : decode cX12_term 87 = .ok (.invokestatic 171, 3) := by decide +kernel
theorem dX12_term_90 : decode cX12_term 90 = .ok (.istore_n 1, 1) := by decide +kernel
theorem dX12_term_91 : decode cX12_term 91 = .ok (.goto (-86), 3) := by decide +kernel
theorem dX12_term_94 : decode cX12_term 94 = .ok (.iload_n 1, 1) := by decide +kernel
theorem dX12_term_95 : decode cX12_term 95 = .ok (.ireturn, 1) := by decide +kernel
def X12_term_87 (n : Nat) (rf : Mm → Option (Int32 × Mm)) (K5 : Int32 → Mm → Option (Int32 × Mm)) (s0 : Int64) (h : Mm) : Option (Int32 × Mm) := (bp (X12_within s0 h) (fun r54 => (K5 r54 h)))
set_option maxRecDepth 100000 in
set_option maxHeartbeats 4000000 in
theorem v_X12_term_87 {X : WX} {G : GX} {o : Mm} {n : Nat} {rf : Mm → Option (Int32 × Mm)} {dr : Nat} (hdr : 7 ≤ dr) (hrf : ∀   (h : Mm) (r : Int32) (h2 : Mm), rf  h = some (r, h2) → Sat X yX12_atom cX12_atom 4 (some .int) dr [.ref (xa X 251)] false o h (some (.int r)) h2) {K5 : Int32 → Mm → Option (Int32 × Mm)} {rv : Int32} {hz : Mm} (hK5 : ∀ (x1 : Int32) (h : Mm), K5 x1 h = some (rv, hz) → V X G RX12 cX12_term 5 (some .int) (dr + 1) 0 0 (QR X G false o (some (.int rv)) hz) false o 5 [(0, .ref (xa X 251)), (1, .int x1)] [] h) {s0 : Int64} {h : Mm} (hF : X12_term_87 n rf K5 s0 h = some (rv, hz)) : V X G RX12 cX12_term 5 (some .int) (dr + 1) 0 0 (QR X G false o (some (.int rv)) hz) false o 87 [(0, .ref (xa X 251))] [.long s0] h := by
  unfold X12_term_87 at hF
  obtain ⟨r54, hc55, hF⟩ := bp_s hF
  refine V.callSi mf_X12_within ml_X12_171 (s_X12_within hc55) (by omega) rfl rfl (Nat.le_of_ble_eq_true rfl) dX12_term_87 ?_
  refine V.istore_n [(1, _), (0, _)] dX12_term_90 rfl (by decide) rfl ?_
  refine V.goto (tgt := 5) dX12_term_91 rfl ?_
  exact V.sub [1, 0] rfl (hK5 _ _ hF)
def X12_term_45 (n : Nat) (rf : Mm → Option (Int32 × Mm)) (K5 : Int32 → Mm → Option (Int32 × Mm)) (x1 : Int32) (s0 : Bool) (h : Mm) : Option (Int32 × Mm) := (bd (rf (wI h 251 10 ((h.1 251 10) + (1 : Int32)))) (fun r56 h58 => (if s0 = true then (X12_term_87 n rf K5 (x1.toInt64 * r56.toInt64) h58) else (if (lg_cmp r56.toInt64 (0 : Int64)) = 0 then (X12_term_87 n rf K5 (0 : Int64) h58) else (if ¬ r56.toInt64 = 0 then (X12_term_87 n rf K5 (x1.toInt64 / r56.toInt64) h58) else none)))))
set_option maxRecDepth 100000 in
set_option maxHeartbeats 4000000 in
theorem v_X12_term_45 {X : WX} {G : GX} {o : Mm} {n : Nat} {rf : Mm → Option (Int32 × Mm)} {dr : Nat} (hdr : 7 ≤ dr) (hrf : ∀   (h : Mm) (r : Int32) (h2 : Mm), rf  h = some (r, h2) → Sat X yX12_atom cX12_atom 4 (some .int) dr [.ref (xa X 251)] false o h (some (.int r)) h2) {K5 : Int32 → Mm → Option (Int32 × Mm)} {rv : Int32} {hz : Mm} (hK5 : ∀ (x1 : Int32) (h : Mm), K5 x1 h = some (rv, hz) → V X G RX12 cX12_term 5 (some .int) (dr + 1) 0 0 (QR X G false o (some (.int rv)) hz) false o 5 [(0, .ref (xa X 251)), (1, .int x1)] [] h) {x1 : Int32} {s0 : Bool} {h : Mm} (hF : X12_term_45 n rf K5 x1 s0 h = some (rv, hz)) : V X G RX12 cX12_term 5 (some .int) (dr + 1) 0 0 (QR X G false o (some (.int rv)) hz) false o 45 [(0, .ref (xa X 251)), (1, .int x1)] [.int (b2i s0)] h := by
  unfold X12_term_45 at hF
  refine V.istore_n [(2, _), (0, _), (1, _)] dX12_term_45 rfl (by decide) rfl ?_
  refine V.aload_n 1 dX12_term_46 rfl rfl ?_
  refine V.dup dX12_term_47 rfl ?_
  refine V.getI fl_X12_116 sh_251 rfl km_251 dX12_term_48 ?_
  refine V.iconst (v := 1) dX12_term_51 rfl ?_
  refine V.iadd dX12_term_52 ?_
  refine V.putI fl_X12_116 rfl (tyX12_ok 10 (by decide)) rfl rfl sh_251 rfl km_251 dX12_term_53 ?_
  refine V.aload_n 1 dX12_term_56 rfl rfl ?_
  obtain ⟨r56, h58, hc57, hF⟩ := bd_s hF
  refine V.callVi mf_X12_atom ml_X12_168 sh_251 (hrf _ _ _ hc57) (by omega) rfl rfl (Nat.le_of_ble_eq_true rfl) dX12_term_57 ?_
  refine V.i2l dX12_term_60 ?_
  refine V.lstore_n [(3, _), (2, _), (0, _), (1, _)] dX12_term_61 rfl (by decide) rfl ?_
  refine V.iload_n 1 dX12_term_62 rfl rfl ?_
  refine V.ifz_eq (tgt := 73) dX12_term_63 rfl (fun c => ?_) (fun c => ?_)
  · replace hF := iq c hF
    refine V.lload_n 0 dX12_term_73 rfl rfl ?_
    refine V.lconst (v := 0) dX12_term_74 rfl ?_
    refine V.lcmp dX12_term_75 ?_
    refine V.if_ne (tgt := 83) dX12_term_76 rfl (fun c => ?_) (fun c => ?_)
    · replace hF := iq c hF
      refine V.iload_n 3 dX12_term_83 rfl rfl ?_
      refine V.i2l dX12_term_84 ?_
      refine V.lload_n 0 dX12_term_85 rfl rfl ?_
      obtain ⟨hk, hF⟩ := ck hF
      refine V.ldiv dX12_term_86 hk ?_
      exact V.sub [2] rfl (v_X12_term_87 hdr hrf hK5 hF)
    · replace hF := ip c hF
      refine V.lconst (v := 0) dX12_term_79 rfl ?_
      refine V.goto (tgt := 87) dX12_term_80 rfl ?_
      exact V.sub [2] rfl (v_X12_term_87 hdr hrf hK5 hF)
  · replace hF := ip c hF
    refine V.iload_n 3 dX12_term_66 rfl rfl ?_
    refine V.i2l dX12_term_67 ?_
    refine V.lload_n 0 dX12_term_68 rfl rfl ?_
    refine V.lmul dX12_term_69 ?_
    refine V.goto (tgt := 87) dX12_term_70 rfl ?_
    exact V.sub [2] rfl (v_X12_term_87 hdr hrf hK5 hF)
def X12_term_31 (n : Nat) (rf : Mm → Option (Int32 × Mm)) (K5 : Int32 → Mm → Option (Int32 × Mm)) (x1 : Int32) (h : Mm) : Option (Int32 × Mm) := (bd (X12_look n h) (fun r59 h61 => (if r59 = (42 : Int32) then (X12_term_45 n rf K5 x1 true h61) else (X12_term_45 n rf K5 x1 false h61))))
set_option maxRecDepth 100000 in
set_option maxHeartbeats 4000000 in
theorem v_X12_term_31 {X : WX} {G : GX} {o : Mm} {n : Nat} {rf : Mm → Option (Int32 × Mm)} {dr : Nat} (hdr : 7 ≤ dr) (hrf : ∀   (h : Mm) (r : Int32) (h2 : Mm), rf  h = some (r, h2) → Sat X yX12_atom cX12_atom 4 (some .int) dr [.ref (xa X 251)] false o h (some (.int r)) h2) {K5 : Int32 → Mm → Option (Int32 × Mm)} {rv : Int32} {hz : Mm} (hK5 : ∀ (x1 : Int32) (h : Mm), K5 x1 h = some (rv, hz) → V X G RX12 cX12_term 5 (some .int) (dr + 1) 0 0 (QR X G false o (some (.int rv)) hz) false o 5 [(0, .ref (xa X 251)), (1, .int x1)] [] h) {x1 : Int32} {h : Mm} (hF : X12_term_31 n rf K5 x1 h = some (rv, hz)) : V X G RX12 cX12_term 5 (some .int) (dr + 1) 0 0 (QR X G false o (some (.int rv)) hz) false o 31 [(0, .ref (xa X 251)), (1, .int x1)] [] h := by
  unfold X12_term_31 at hF
  refine V.aload_n 0 dX12_term_31 rfl rfl ?_
  obtain ⟨r59, h61, hc60, hF⟩ := bd_s hF
  refine V.callVi mf_X12_look ml_X12_135 sh_251 (s_X12_look hc60) (by omega) rfl rfl (Nat.le_of_ble_eq_true rfl) dX12_term_32 ?_
  refine V.bipush (v := 42) dX12_term_35 (by decide) ?_
  refine V.icmp_ne (tgt := 44) dX12_term_37 rfl (fun c => ?_) (fun c => ?_)
  · replace hF := iq c hF
    refine V.iconst (v := 0) dX12_term_44 rfl ?_
    exact (v_X12_term_45 hdr hrf hK5 hF)
  · replace hF := ip c hF
    refine V.iconst (v := 1) dX12_term_40 rfl ?_
    refine V.goto (tgt := 45) dX12_term_41 rfl ?_
    exact (v_X12_term_45 hdr hrf hK5 hF)
def X12_term_94 (n : Nat) (rf : Mm → Option (Int32 × Mm)) (x1 : Int32) (h : Mm) : Option (Int32 × Mm) := (some (x1, h))
set_option maxRecDepth 100000 in
set_option maxHeartbeats 4000000 in
theorem v_X12_term_94 {X : WX} {G : GX} {o : Mm} {n : Nat} {rf : Mm → Option (Int32 × Mm)} {dr : Nat} (hdr : 7 ≤ dr) (hrf : ∀   (h : Mm) (r : Int32) (h2 : Mm), rf  h = some (r, h2) → Sat X yX12_atom cX12_atom 4 (some .int) dr [.ref (xa X 251)] false o h (some (.int r)) h2) {rv : Int32} {hz : Mm} {x1 : Int32} {h : Mm} (hF : X12_term_94 n rf x1 h = some (rv, hz)) : V X G RX12 cX12_term 5 (some .int) (dr + 1) 0 0 (QR X G false o (some (.int rv)) hz) false o 94 [(1, .int x1)] [] h := by
  unfold X12_term_94 at hF
  refine V.iload_n 0 dX12_term_94 rfl rfl ?_
  cases hF
  exact V.iret dX12_term_95
def X12_term_5 (n : Nat) (rf : Mm → Option (Int32 × Mm)) : Nat → Int32 → Mm → Option (Int32 × Mm)
  | 0, _, _ => none
  | f + 1, x1, h => (if (h.1 251 11) = (-1 : Int32) then (bd (X12_look n h) (fun r62 h64 => (if r62 = (42 : Int32) then (X12_term_31 n rf (X12_term_5 n rf f) x1 h64) else (bd (X12_look n h64) (fun r65 h67 => (if r65 = (47 : Int32) then (X12_term_31 n rf (X12_term_5 n rf f) x1 h67) else (X12_term_94 n rf x1 h67))))))) else (X12_term_94 n rf x1 h))
set_option maxRecDepth 100000 in
set_option maxHeartbeats 4000000 in
theorem v_X12_term_5 {X : WX} {G : GX} {o : Mm} {n : Nat} {rf : Mm → Option (Int32 × Mm)} {dr : Nat} (hdr : 7 ≤ dr) (hrf : ∀   (h : Mm) (r : Int32) (h2 : Mm), rf  h = some (r, h2) → Sat X yX12_atom cX12_atom 4 (some .int) dr [.ref (xa X 251)] false o h (some (.int r)) h2) {rv : Int32} {hz : Mm} : ∀ (f : Nat) (x1 : Int32) (h : Mm), X12_term_5 n rf f x1 h = some (rv, hz) → V X G RX12 cX12_term 5 (some .int) (dr + 1) 0 0 (QR X G false o (some (.int rv)) hz) false o 5 [(0, .ref (xa X 251)), (1, .int x1)] [] h := by
  intro f
  induction f with
  | zero => intro x1 h hF; exact nomatch (show (none : Option (Int32 × Mm)) = some (rv, hz) from hF)
  | succ f ih =>
    intro x1 h hF
    unfold X12_term_5 at hF
    refine V.aload_n 0 dX12_term_5 rfl rfl ?_
    refine V.getI fl_X12_125 sh_251 rfl km_251 dX12_term_6 ?_
    refine V.iconst (v := -1) dX12_term_9 rfl ?_
    refine V.icmp_ne (tgt := 94) dX12_term_10 rfl (fun c => ?_) (fun c => ?_)
    · replace hF := iq c hF
      exact V.sub [1] rfl (v_X12_term_94 hdr hrf hF)
    · replace hF := ip c hF
      refine V.aload_n 0 dX12_term_13 rfl rfl ?_
      obtain ⟨r62, h64, hc63, hF⟩ := bd_s hF
      refine V.callVi mf_X12_look ml_X12_135 sh_251 (s_X12_look hc63) (by omega) rfl rfl (Nat.le_of_ble_eq_true rfl) dX12_term_14 ?_
      refine V.bipush (v := 42) dX12_term_17 (by decide) ?_
      refine V.icmp_eq (tgt := 31) dX12_term_19 rfl (fun c => ?_) (fun c => ?_)
      · replace hF := ip c hF
        exact (v_X12_term_31 hdr hrf ih hF)
      · replace hF := iq c hF
        refine V.aload_n 0 dX12_term_22 rfl rfl ?_
        obtain ⟨r65, h67, hc66, hF⟩ := bd_s hF
        refine V.callVi mf_X12_look ml_X12_135 sh_251 (s_X12_look hc66) (by omega) rfl rfl (Nat.le_of_ble_eq_true rfl) dX12_term_23 ?_
        refine V.bipush (v := 47) dX12_term_26 (by decide) ?_
        refine V.icmp_ne (tgt := 94) dX12_term_28 rfl (fun c => ?_) (fun c => ?_)
        · replace hF := iq c hF
          exact V.sub [1] rfl (v_X12_term_94 hdr hrf hF)
        · replace hF := ip c hF
          exact (v_X12_term_31 hdr hrf ih hF)
def X12_term (n : Nat) (rf : Mm → Option (Int32 × Mm)) (h : Mm) : Option (Int32 × Mm) := (bd (rf h) (fun r68 h70 => (X12_term_5 n rf n r68 h70)))
set_option maxRecDepth 100000 in
set_option maxHeartbeats 4000000 in
theorem s_X12_term {X : WX} {o : Mm} {n : Nat} {rf : Mm → Option (Int32 × Mm)} {dr : Nat} (hdr : 7 ≤ dr) (hrf : ∀   (h : Mm) (r : Int32) (h2 : Mm), rf  h = some (r, h2) → Sat X yX12_atom cX12_atom 4 (some .int) dr [.ref (xa X 251)] false o h (some (.int r)) h2) {rv : Int32} {hz : Mm} {h : Mm} (hF : X12_term n rf h = some (rv, hz)) : Sat X yX12_term cX12_term 5 (some .int) (dr + 1) [.ref (xa X 251)] false o h (some (.int rv)) hz := by
  unfold X12_term at hF
  refine Sat.mk (own := RX12) rfl (by decide +kernel) (Nat.le_of_ble_eq_true rfl) (fun G => ?_)
  refine V.sub (lv2 := [(0, _)]) [0] rfl ?_
  refine V.aload_n 0 dX12_term_0 rfl rfl ?_
  obtain ⟨r68, h70, hc69, hF⟩ := bd_s hF
  refine V.callVi mf_X12_atom ml_X12_168 sh_251 (hrf _ _ _ hc69) (by omega) rfl rfl (Nat.le_of_ble_eq_true rfl) dX12_term_1 ?_
  refine V.istore_n [(1, _), (0, _)] dX12_term_4 rfl (by decide) rfl ?_
  exact V.sub [1, 0] rfl (v_X12_term_5 hdr hrf n _ _ hF)
/-! MonsterCotModel.sum -/
theorem dX12_sum_0 : decode cX12_sum 0 = .ok (.aload_n 0, 1) := by decide +kernel
theorem dX12_sum_1 : decode cX12_sum 1 = .ok (.invokevirtual 175, 3) := by decide +kernel
theorem dX12_sum_4 : decode cX12_sum 4 = .ok (.istore_n 1, 1) := by decide +kernel
theorem dX12_sum_5 : decode cX12_sum 5 = .ok (.aload_n 0, 1) := by decide +kernel
theorem dX12_sum_6 : decode cX12_sum 6 = .ok (.getfield 125, 3) := by decide +kernel
theorem dX12_sum_9 : decode cX12_sum 9 = .ok (.iconst (-1), 1) := by decide +kernel
theorem dX12_sum_10 : decode cX12_sum 10 = .ok (.if_icmp .ne 74, 3) := by decide +kernel
theorem dX12_sum_13 : decode cX12_sum 13 = .ok (.aload_n 0, 1) := by decide +kernel
theorem dX12_sum_14 : decode cX12_sum 14 = .ok (.invokevirtual 135, 3) := by decide +kernel
theorem dX12_sum_17 : decode cX12_sum 17 = .ok (.bipush 43, 2) := by decide +kernel
theorem dX12_sum_19 : decode cX12_sum 19 = .ok (.if_icmp .eq 12, 3) := by decide +kernel
theorem dX12_sum_22 : decode cX12_sum 22 = .ok (.aload_n 0, 1) := by decide +kernel
theorem dX12_sum_23 : decode cX12_sum 23 = .ok (.invokevirtual 135, 3) := by decide +kernel
theorem dX12_sum_26 : decode cX12_sum 26 = .ok (.bipush 45, 2) := by decide +kernel
theorem dX12_sum_28 : decode cX12_sum 28 = .ok (.if_icmp .ne 56, 3) := by decide +kernel
theorem dX12_sum_31 : decode cX12_sum 31 = .ok (.aload_n 0, 1) := by decide +kernel
theorem dX12_sum_32 : decode cX12_sum 32 = .ok (.invokevirtual 135, 3) := by decide +kernel
theorem dX12_sum_35 : decode cX12_sum 35 = .ok (.bipush 43, 2) := by decide +kernel
theorem dX12_sum_37 : decode cX12_sum 37 = .ok (.if_icmp .ne 7, 3) := by decide +kernel
theorem dX12_sum_40 : decode cX12_sum 40 = .ok (.iconst 1, 1) := by decide +kernel
theorem dX12_sum_41 : decode cX12_sum 41 = .ok (.goto 4, 3) := by decide +kernel
theorem dX12_sum_44 : decode cX12_sum 44 = .ok (.iconst 0, 1) := by decide +kernel
theorem dX12_sum_45 : decode cX12_sum 45 = .ok (.istore_n 2, 1) := by decide +kernel
theorem dX12_sum_46 : decode cX12_sum 46 = .ok (.aload_n 0, 1) := by decide +kernel
theorem dX12_sum_47 : decode cX12_sum 47 = .ok (.dup, 1) := by decide +kernel
theorem dX12_sum_48 : decode cX12_sum 48 = .ok (.getfield 116, 3) := by decide +kernel
theorem dX12_sum_51 : decode cX12_sum 51 = .ok (.iconst 1, 1) := by decide +kernel
theorem dX12_sum_52 : decode cX12_sum 52 = .ok (.iadd, 1) := by decide +kernel
theorem dX12_sum_53 : decode cX12_sum 53 = .ok (.putfield 116, 3) := by decide +kernel
theorem dX12_sum_56 : decode cX12_sum 56 = .ok (.aload_n 0, 1) := by decide +kernel
theorem dX12_sum_57 : decode cX12_sum 57 = .ok (.invokevirtual 175, 3) := by decide +kernel
theorem dX12_sum_60 : decode cX12_sum 60 = .ok (.i2l, 1) := by decide +kernel
theorem dX12_sum_61 : decode cX12_sum 61 = .ok (.lstore_n 3, 1) := by decide +kernel
theorem dX12_sum_62 : decode cX12_sum 62 = .ok (.iload_n 2, 1) := by decide +kernel
theorem dX12_sum_63 : decode cX12_sum 63 = .ok (.ifCond .eq 10, 3) := by decide +kernel
theorem dX12_sum_66 : decode cX12_sum 66 = .ok (.iload_n 1, 1) := by decide +kernel
theorem dX12_sum_67 : decode cX12_sum 67 = .ok (.i2l, 1) := by decide +kernel
theorem dX12_sum_68 : decode cX12_sum 68 = .ok (.lload_n 3, 1) := by decide +kernel
theorem dX12_sum_69 : decode cX12_sum 69 = .ok (.ladd, 1) := by decide +kernel
theorem dX12_sum_70 : decode cX12_sum 70 = .ok (.goto 7, 3) := by decide +kernel
theorem dX12_sum_73 : decode cX12_sum 73 = .ok (.iload_n 1, 1) := by decide +kernel
theorem dX12_sum_74 : decode cX12_sum 74 = .ok (.i2l, 1) := by decide +kernel
theorem dX12_sum_75 : decode cX12_sum 75 = .ok (.lload_n 3, 1) := by decide +kernel
theorem dX12_sum_76 : decode cX12_sum 76 = .ok (.lsub, 1) := by decide +kernel
theorem dX12_sum_77 : decode cX12_sum 77 = .ok (.invokestatic 171, 3) := by decide +kernel
theorem dX12_sum_80 : decode cX12_sum 80 = .ok (.istore_n 1, 1) := by decide +kernel
theorem dX12_sum_81 : decode cX12_sum 81 = .ok (.goto (-76), 3) := by decide +kernel
theorem dX12_sum_84 : decode cX12_sum 84 = .ok (.iload_n 1, 1) := by decide +kernel
theorem dX12_sum_85 : decode cX12_sum 85 = .ok (.ireturn, 1) := by decide +kernel
def X12_sum_77 (n : Nat) (rf : Mm → Option (Int32 × Mm)) (K5 : Int32 → Mm → Option (Int32 × Mm)) (s0 : Int64) (h : Mm) : Option (Int32 × Mm) := (bp (X12_within s0 h) (fun r54 => (K5 r54 h)))
set_option maxRecDepth 100000 in
set_option maxHeartbeats 4000000 in
theorem v_X12_sum_77 {X : WX} {G : GX} {o : Mm} {n : Nat} {rf : Mm → Option (Int32 × Mm)} {dr : Nat} (hdr : 7 ≤ dr) (hrf : ∀   (h : Mm) (r : Int32) (h2 : Mm), rf  h = some (r, h2) → Sat X yX12_atom cX12_atom 4 (some .int) dr [.ref (xa X 251)] false o h (some (.int r)) h2) {K5 : Int32 → Mm → Option (Int32 × Mm)} {rv : Int32} {hz : Mm} (hK5 : ∀ (x1 : Int32) (h : Mm), K5 x1 h = some (rv, hz) → V X G RX12 cX12_sum 5 (some .int) (dr + 2) 0 0 (QR X G false o (some (.int rv)) hz) false o 5 [(0, .ref (xa X 251)), (1, .int x1)] [] h) {s0 : Int64} {h : Mm} (hF : X12_sum_77 n rf K5 s0 h = some (rv, hz)) : V X G RX12 cX12_sum 5 (some .int) (dr + 2) 0 0 (QR X G false o (some (.int rv)) hz) false o 77 [(0, .ref (xa X 251))] [.long s0] h := by
  unfold X12_sum_77 at hF
  obtain ⟨r54, hc55, hF⟩ := bp_s hF
  refine V.callSi mf_X12_within ml_X12_171 (s_X12_within hc55) (by omega) rfl rfl (Nat.le_of_ble_eq_true rfl) dX12_sum_77 ?_
  refine V.istore_n [(1, _), (0, _)] dX12_sum_80 rfl (by decide) rfl ?_
  refine V.goto (tgt := 5) dX12_sum_81 rfl ?_
  exact V.sub [1, 0] rfl (hK5 _ _ hF)
def X12_sum_45 (n : Nat) (rf : Mm → Option (Int32 × Mm)) (K5 : Int32 → Mm → Option (Int32 × Mm)) (x1 : Int32) (s0 : Bool) (h : Mm) : Option (Int32 × Mm) := (bd (X12_term n rf (wI h 251 10 ((h.1 251 10) + (1 : Int32)))) (fun r56 h58 => (if s0 = true then (X12_sum_77 n rf K5 (x1.toInt64 + r56.toInt64) h58) else (X12_sum_77 n rf K5 (x1.toInt64 - r56.toInt64) h58))))
set_option maxRecDepth 100000 in
set_option maxHeartbeats 4000000 in
theorem v_X12_sum_45 {X : WX} {G : GX} {o : Mm} {n : Nat} {rf : Mm → Option (Int32 × Mm)} {dr : Nat} (hdr : 7 ≤ dr) (hrf : ∀   (h : Mm) (r : Int32) (h2 : Mm), rf  h = some (r, h2) → Sat X yX12_atom cX12_atom 4 (some .int) dr [.ref (xa X 251)] false o h (some (.int r)) h2) {K5 : Int32 → Mm → Option (Int32 × Mm)} {rv : Int32} {hz : Mm} (hK5 : ∀ (x1 : Int32) (h : Mm), K5 x1 h = some (rv, hz) → V X G RX12 cX12_sum 5 (some .int) (dr + 2) 0 0 (QR X G false o (some (.int rv)) hz) false o 5 [(0, .ref (xa X 251)), (1, .int x1)] [] h) {x1 : Int32} {s0 : Bool} {h : Mm} (hF : X12_sum_45 n rf K5 x1 s0 h = some (rv, hz)) : V X G RX12 cX12_sum 5 (some .int) (dr + 2) 0 0 (QR X G false o (some (.int rv)) hz) false o 45 [(0, .ref (xa X 251)), (1, .int x1)] [.int (b2i s0)] h := by
  unfold X12_sum_45 at hF
  refine V.istore_n [(2, _), (0, _), (1, _)] dX12_sum_45 rfl (by decide) rfl ?_
  refine V.aload_n 1 dX12_sum_46 rfl rfl ?_
  refine V.dup dX12_sum_47 rfl ?_
  refine V.getI fl_X12_116 sh_251 rfl km_251 dX12_sum_48 ?_
  refine V.iconst (v := 1) dX12_sum_51 rfl ?_
  refine V.iadd dX12_sum_52 ?_
  refine V.putI fl_X12_116 rfl (tyX12_ok 10 (by decide)) rfl rfl sh_251 rfl km_251 dX12_sum_53 ?_
  refine V.aload_n 1 dX12_sum_56 rfl rfl ?_
  obtain ⟨r56, h58, hc57, hF⟩ := bd_s hF
  refine V.callVi mf_X12_term ml_X12_175 sh_251 (s_X12_term hdr hrf hc57) (by omega) rfl rfl (Nat.le_of_ble_eq_true rfl) dX12_sum_57 ?_
  refine V.i2l dX12_sum_60 ?_
  refine V.lstore_n [(3, _), (2, _), (0, _), (1, _)] dX12_sum_61 rfl (by decide) rfl ?_
  refine V.iload_n 1 dX12_sum_62 rfl rfl ?_
  refine V.ifz_eq (tgt := 73) dX12_sum_63 rfl (fun c => ?_) (fun c => ?_)
  · replace hF := iq c hF
    refine V.iload_n 3 dX12_sum_73 rfl rfl ?_
    refine V.i2l dX12_sum_74 ?_
    refine V.lload_n 0 dX12_sum_75 rfl rfl ?_
    refine V.lsub dX12_sum_76 ?_
    exact V.sub [2] rfl (v_X12_sum_77 hdr hrf hK5 hF)
  · replace hF := ip c hF
    refine V.iload_n 3 dX12_sum_66 rfl rfl ?_
    refine V.i2l dX12_sum_67 ?_
    refine V.lload_n 0 dX12_sum_68 rfl rfl ?_
    refine V.ladd dX12_sum_69 ?_
    refine V.goto (tgt := 77) dX12_sum_70 rfl ?_
    exact V.sub [2] rfl (v_X12_sum_77 hdr hrf hK5 hF)
def X12_sum_31 (n : Nat) (rf : Mm → Option (Int32 × Mm)) (K5 : Int32 → Mm → Option (Int32 × Mm)) (x1 : Int32) (h : Mm) : Option (Int32 × Mm) := (bd (X12_look n h) (fun r59 h61 => (if r59 = (43 : Int32) then (X12_sum_45 n rf K5 x1 true h61) else (X12_sum_45 n rf K5 x1 false h61))))
set_option maxRecDepth 100000 in
set_option maxHeartbeats 4000000 in
theorem v_X12_sum_31 {X : WX} {G : GX} {o : Mm} {n : Nat} {rf : Mm → Option (Int32 × Mm)} {dr : Nat} (hdr : 7 ≤ dr) (hrf : ∀   (h : Mm) (r : Int32) (h2 : Mm), rf  h = some (r, h2) → Sat X yX12_atom cX12_atom 4 (some .int) dr [.ref (xa X 251)] false o h (some (.int r)) h2) {K5 : Int32 → Mm → Option (Int32 × Mm)} {rv : Int32} {hz : Mm} (hK5 : ∀ (x1 : Int32) (h : Mm), K5 x1 h = some (rv, hz) → V X G RX12 cX12_sum 5 (some .int) (dr + 2) 0 0 (QR X G false o (some (.int rv)) hz) false o 5 [(0, .ref (xa X 251)), (1, .int x1)] [] h) {x1 : Int32} {h : Mm} (hF : X12_sum_31 n rf K5 x1 h = some (rv, hz)) : V X G RX12 cX12_sum 5 (some .int) (dr + 2) 0 0 (QR X G false o (some (.int rv)) hz) false o 31 [(0, .ref (xa X 251)), (1, .int x1)] [] h := by
  unfold X12_sum_31 at hF
  refine V.aload_n 0 dX12_sum_31 rfl rfl ?_
  obtain ⟨r59, h61, hc60, hF⟩ := bd_s hF
  refine V.callVi mf_X12_look ml_X12_135 sh_251 (s_X12_look hc60) (by omega) rfl rfl (Nat.le_of_ble_eq_true rfl) dX12_sum_32 ?_
  refine V.bipush (v := 43) dX12_sum_35 (by decide) ?_
  refine V.icmp_ne (tgt := 44) dX12_sum_37 rfl (fun c => ?_) (fun c => ?_)
  · replace hF := iq c hF
    refine V.iconst (v := 0) dX12_sum_44 rfl ?_
    exact (v_X12_sum_45 hdr hrf hK5 hF)
  · replace hF := ip c hF
    refine V.iconst (v := 1) dX12_sum_40 rfl ?_
    refine V.goto (tgt := 45) dX12_sum_41 rfl ?_
    exact (v_X12_sum_45 hdr hrf hK5 hF)
def X12_sum_84 (n : Nat) (rf : Mm → Option (Int32 × Mm)) (x1 : Int32) (h : Mm) : Option (Int32 × Mm) := (some (x1, h))
set_option maxRecDepth 100000 in
set_option maxHeartbeats 4000000 in
theorem v_X12_sum_84 {X : WX} {G : GX} {o : Mm} {n : Nat} {rf : Mm → Option (Int32 × Mm)} {dr : Nat} (hdr : 7 ≤ dr) (hrf : ∀   (h : Mm) (r : Int32) (h2 : Mm), rf  h = some (r, h2) → Sat X yX12_atom cX12_atom 4 (some .int) dr [.ref (xa X 251)] false o h (some (.int r)) h2) {rv : Int32} {hz : Mm} {x1 : Int32} {h : Mm} (hF : X12_sum_84 n rf x1 h = some (rv, hz)) : V X G RX12 cX12_sum 5 (some .int) (dr + 2) 0 0 (QR X G false o (some (.int rv)) hz) false o 84 [(1, .int x1)] [] h := by
  unfold X12_sum_84 at hF
  refine V.iload_n 0 dX12_sum_84 rfl rfl ?_
  cases hF
  exact V.iret dX12_sum_85
def X12_sum_5 (n : Nat) (rf : Mm → Option (Int32 × Mm)) : Nat → Int32 → Mm → Option (Int32 × Mm)
  | 0, _, _ => none
  | f + 1, x1, h => (if (h.1 251 11) = (-1 : Int32) then (bd (X12_look n h) (fun r62 h64 => (if r62 = (43 : Int32) then (X12_sum_31 n rf (X12_sum_5 n rf f) x1 h64) else (bd (X12_look n h64) (fun r65 h67 => (if r65 = (45 : Int32) then (X12_sum_31 n rf (X12_sum_5 n rf f) x1 h67) else (X12_sum_84 n rf x1 h67))))))) else (X12_sum_84 n rf x1 h))
set_option maxRecDepth 100000 in
set_option maxHeartbeats 4000000 in
theorem v_X12_sum_5 {X : WX} {G : GX} {o : Mm} {n : Nat} {rf : Mm → Option (Int32 × Mm)} {dr : Nat} (hdr : 7 ≤ dr) (hrf : ∀   (h : Mm) (r : Int32) (h2 : Mm), rf  h = some (r, h2) → Sat X yX12_atom cX12_atom 4 (some .int) dr [.ref (xa X 251)] false o h (some (.int r)) h2) {rv : Int32} {hz : Mm} : ∀ (f : Nat) (x1 : Int32) (h : Mm), X12_sum_5 n rf f x1 h = some (rv, hz) → V X G RX12 cX12_sum 5 (some .int) (dr + 2) 0 0 (QR X G false o (some (.int rv)) hz) false o 5 [(0, .ref (xa X 251)), (1, .int x1)] [] h := by
  intro f
  induction f with
  | zero => intro x1 h hF; exact nomatch (show (none : Option (Int32 × Mm)) = some (rv, hz) from hF)
  | succ f ih =>
    intro x1 h hF
    unfold X12_sum_5 at hF
    refine V.aload_n 0 dX12_sum_5 rfl rfl ?_
    refine V.getI fl_X12_125 sh_251 rfl km_251 dX12_sum_6 ?_
    refine V.iconst (v := -1) dX12_sum_9 rfl ?_
    refine V.icmp_ne (tgt := 84) dX12_sum_10 rfl (fun c => ?_) (fun c => ?_)
    · replace hF := iq c hF
      exact V.sub [1] rfl (v_X12_sum_84 hdr hrf hF)
    · replace hF := ip c hF
      refine V.aload_n 0 dX12_sum_13 rfl rfl ?_
      obtain ⟨r62, h64, hc63, hF⟩ := bd_s hF
      refine V.callVi mf_X12_look ml_X12_135 sh_251 (s_X12_look hc63) (by omega) rfl rfl (Nat.le_of_ble_eq_true rfl) dX12_sum_14 ?_
      refine V.bipush (v := 43) dX12_sum_17 (by decide) ?_
      refine V.icmp_eq (tgt := 31) dX12_sum_19 rfl (fun c => ?_) (fun c => ?_)
      · replace hF := ip c hF
        exact (v_X12_sum_31 hdr hrf ih hF)
      · replace hF := iq c hF
        refine V.aload_n 0 dX12_sum_22 rfl rfl ?_
        obtain ⟨r65, h67, hc66, hF⟩ := bd_s hF
        refine V.callVi mf_X12_look ml_X12_135 sh_251 (s_X12_look hc66) (by omega) rfl rfl (Nat.le_of_ble_eq_true rfl) dX12_sum_23 ?_
        refine V.bipush (v := 45) dX12_sum_26 (by decide) ?_
        refine V.icmp_ne (tgt := 84) dX12_sum_28 rfl (fun c => ?_) (fun c => ?_)
        · replace hF := iq c hF
          exact V.sub [1] rfl (v_X12_sum_84 hdr hrf hF)
        · replace hF := ip c hF
          exact (v_X12_sum_31 hdr hrf ih hF)
def X12_sum (n : Nat) (rf : Mm → Option (Int32 × Mm)) (h : Mm) : Option (Int32 × Mm) := (bd (X12_term n rf h) (fun r68 h70 => (X12_sum_5 n rf n r68 h70)))
set_option maxRecDepth 100000 in
set_option maxHeartbeats 4000000 in
theorem s_X12_sum {X : WX} {o : Mm} {n : Nat} {rf : Mm → Option (Int32 × Mm)} {dr : Nat} (hdr : 7 ≤ dr) (hrf : ∀   (h : Mm) (r : Int32) (h2 : Mm), rf  h = some (r, h2) → Sat X yX12_atom cX12_atom 4 (some .int) dr [.ref (xa X 251)] false o h (some (.int r)) h2) {rv : Int32} {hz : Mm} {h : Mm} (hF : X12_sum n rf h = some (rv, hz)) : Sat X yX12_sum cX12_sum 5 (some .int) (dr + 2) [.ref (xa X 251)] false o h (some (.int rv)) hz := by
  unfold X12_sum at hF
  refine Sat.mk (own := RX12) rfl (by decide +kernel) (Nat.le_of_ble_eq_true rfl) (fun G => ?_)
  refine V.sub (lv2 := [(0, _)]) [0] rfl ?_
  refine V.aload_n 0 dX12_sum_0 rfl rfl ?_
  obtain ⟨r68, h70, hc69, hF⟩ := bd_s hF
  refine V.callVi mf_X12_term ml_X12_175 sh_251 (s_X12_term hdr hrf hc69) (by omega) rfl rfl (Nat.le_of_ble_eq_true rfl) dX12_sum_1 ?_
  refine V.istore_n [(1, _), (0, _)] dX12_sum_4 rfl (by decide) rfl ?_
  exact V.sub [1, 0] rfl (v_X12_sum_5 hdr hrf n _ _ hF)
