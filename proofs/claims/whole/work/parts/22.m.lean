/-! MonsterCotModel.calmIf -/
theorem dX12_calmIf_0 : decode cX12_calmIf 0 = .ok (.iconst 0, 1) := by decide +kernel
theorem dX12_calmIf_1 : decode cX12_calmIf 1 = .ok (.istore 5, 2) := by decide +kernel
theorem dX12_calmIf_3 : decode cX12_calmIf 3 = .ok (.iconst 0, 1) := by decide +kernel
theorem dX12_calmIf_4 : decode cX12_calmIf 4 = .ok (.istore 6, 2) := by decide +kernel
theorem dX12_calmIf_6 : decode cX12_calmIf 6 = .ok (.iload 6, 2) := by decide +kernel
theorem dX12_calmIf_8 : decode cX12_calmIf 8 = .ok (.iload_n 3, 1) := by decide +kernel
theorem dX12_calmIf_9 : decode cX12_calmIf 9 = .ok (.if_icmp .ge 64, 3) := by decide +kernel
theorem dX12_calmIf_12 : decode cX12_calmIf 12 = .ok (.aload_n 0, 1) := by decide +kernel
theorem dX12_calmIf_13 : decode cX12_calmIf 13 = .ok (.iload_n 2, 1) := by decide +kernel
theorem dX12_calmIf_14 : decode cX12_calmIf 14 = .ok (.aload_n 0, 1) := by decide +kernel
theorem dX12_calmIf_15 : decode cX12_calmIf 15 = .ok (.getfield 61, 3) := by decide +kernel
theorem dX12_calmIf_18 : decode cX12_calmIf 18 = .ok (.iconst 3, 1) := by decide +kernel
theorem dX12_calmIf_19 : decode cX12_calmIf 19 = .ok (.iload 4, 2) := by decide +kernel
theorem dX12_calmIf_21 : decode cX12_calmIf 21 = .ok (.imul, 1) := by decide +kernel
theorem dX12_calmIf_22 : decode cX12_calmIf 22 = .ok (.iconst 1, 1) := by decide +kernel
theorem dX12_calmIf_23 : decode cX12_calmIf 23 = .ok (.iadd, 1) := by decide +kernel
theorem dX12_calmIf_24 : decode cX12_calmIf 24 = .ok (.iaload, 1) := by decide +kernel
theorem dX12_calmIf_25 : decode cX12_calmIf 25 = .ok (.iconst 0, 1) := by decide +kernel
theorem dX12_calmIf_26 : decode cX12_calmIf 26 = .ok (.iload 6, 2) := by decide +kernel
theorem dX12_calmIf_28 : decode cX12_calmIf 28 = .ok (.iconst 0, 1) := by decide +kernel
theorem dX12_calmIf_29 : decode cX12_calmIf 29 = .ok (.iload 6, 2) := by decide +kernel
theorem dX12_calmIf_31 : decode cX12_calmIf 31 = .ok (.invokevirtual 331, 3) := by decide +kernel
theorem dX12_calmIf_34 : decode cX12_calmIf 34 = .ok (.istore 7, 2) := by decide +kernel
theorem dX12_calmIf_36 : decode cX12_calmIf 36 = .ok (.iload 5, 2) := by decide +kernel
theorem dX12_calmIf_38 : decode cX12_calmIf 38 = .ok (.aload_n 0, 1) := by decide +kernel
theorem dX12_calmIf_39 : decode cX12_calmIf 39 = .ok (.iload_n 2, 1) := by decide +kernel
theorem dX12_calmIf_40 : decode cX12_calmIf 40 = .ok (.invokevirtual 328, 3) := by decide +kernel
theorem dX12_calmIf_43 : decode cX12_calmIf 43 = .ok (.iload_n 1, 1) := by decide +kernel
theorem dX12_calmIf_44 : decode cX12_calmIf 44 = .ok (.if_icmp .ne 15, 3) := by decide +kernel
theorem dX12_calmIf_47 : decode cX12_calmIf 47 = .ok (.bipush 20, 2) := by decide +kernel
theorem dX12_calmIf_49 : decode cX12_calmIf 49 = .ok (.iload 7, 2) := by decide +kernel
theorem dX12_calmIf_51 : decode cX12_calmIf 51 = .ok (.iconst 3, 1) := by decide +kernel
theorem dX12_calmIf_52 : decode cX12_calmIf 52 = .ok (.iadd, 1) := by decide +kernel
theorem dX12_calmIf_53 : decode cX12_calmIf 53 = .ok (.invokestatic 315, 3) := by decide +kernel
theorem dX12_calmIf_56 : decode cX12_calmIf 56 = .ok (.goto 5, 3) := by decide +kernel
theorem dX12_calmIf_59 : decode cX12_calmIf 59 = .ok (.iload 7, 2) := by decide +kernel
theorem dX12_calmIf_61 : decode cX12_calmIf 61 = .ok (.iadd, 1) := by decide +kernel
theorem dX12_calmIf_62 : decode cX12_calmIf 62 = .ok (.invokestatic 334, 3) := by decide +kernel
theorem dX12_calmIf_65 : decode cX12_calmIf 65 = .ok (.istore 5, 2) := by decide +kernel
theorem dX12_calmIf_67 : decode cX12_calmIf 67 = .ok (.iinc 6 1, 3) := by decide +kernel
theorem dX12_calmIf_70 : decode cX12_calmIf 70 = .ok (.goto (-64), 3) := by decide +kernel
theorem dX12_calmIf_73 : decode cX12_calmIf 73 = .ok (.iload 5, 2) := by decide +kernel
theorem dX12_calmIf_75 : decode cX12_calmIf 75 = .ok (.ireturn, 1) := by decide +kernel
def X12_calmIf_61 (n : Nat) (K6 : Int32 → Int32 → Int32 → Int32 → Int32 → Int32 → Mm → Option (Int32 × Mm)) (x1 : Int32) (x2 : Int32) (x3 : Int32) (x4 : Int32) (x6 : Int32) (s0 : Int32) (s1 : Int32) (h : Mm) : Option (Int32 × Mm) := (bp (X12_held (s0 + s1) h) (fun r35 => (K6 x1 x2 x3 x4 r35 (x6 + (1)) h)))
set_option maxRecDepth 100000 in
set_option maxHeartbeats 4000000 in
theorem v_X12_calmIf_61 {X : WX} {G : GX} {o : Mm} {n : Nat} {K6 : Int32 → Int32 → Int32 → Int32 → Int32 → Int32 → Mm → Option (Int32 × Mm)} {rv : Int32} {hz : Mm} (hK6 : ∀ (x1 : Int32) (x2 : Int32) (x3 : Int32) (x4 : Int32) (x5 : Int32) (x6 : Int32) (h : Mm), K6 x1 x2 x3 x4 x5 x6 h = some (rv, hz) → V X G RX12 cX12_calmIf 8 (some .int) 91 0 0 (QR X G false o (some (.int rv)) hz) false o 6 [(0, .ref (xa X 251)), (1, .int x1), (2, .int x2), (3, .int x3), (4, .int x4), (5, .int x5), (6, .int x6)] [] h) {x1 : Int32} {x2 : Int32} {x3 : Int32} {x4 : Int32} {x6 : Int32} {s0 : Int32} {s1 : Int32} {h : Mm} (hF : X12_calmIf_61 n K6 x1 x2 x3 x4 x6 s0 s1 h = some (rv, hz)) : V X G RX12 cX12_calmIf 8 (some .int) 91 0 0 (QR X G false o (some (.int rv)) hz) false o 61 [(0, .ref (xa X 251)), (1, .int x1), (2, .int x2), (3, .int x3), (4, .int x4), (6, .int x6)] [.int s1, .int s0] h := by
  unfold X12_calmIf_61 at hF
  refine V.iadd dX12_calmIf_61 ?_
  obtain ⟨r35, hc36, hF⟩ := bp_s hF
  refine V.callSi mf_X12_held ml_X12_334 (s_X12_held hc36) (by decide) rfl rfl (Nat.le_of_ble_eq_true rfl) dX12_calmIf_62 ?_
  refine V.istore [(5, _), (0, _), (1, _), (2, _), (3, _), (4, _), (6, _)] dX12_calmIf_65 (by decide) rfl ?_
  refine V.iinc (v := (x6 + (1))) 6 [(6, _), (5, _), (0, _), (1, _), (2, _), (3, _), (4, _)] dX12_calmIf_67 rfl rfl (by decide) rfl ?_
  refine V.goto (tgt := 6) dX12_calmIf_70 rfl ?_
  exact V.sub [2, 3, 4, 5, 6, 1, 0] rfl (hK6 _ _ _ _ _ _ _ hF)
def X12_calmIf_6 (n : Nat) : Nat → Int32 → Int32 → Int32 → Int32 → Int32 → Int32 → Mm → Option (Int32 × Mm)
  | 0, _, _, _, _, _, _, _ => none
  | f + 1, x1, x2, x3, x4, x5, x6, h => (if x3 ≤ x6 then (some (x5, h)) else (if inB (((3) * x4) + (1)) (aln 264) then (bd (X12_page n x2 (h.1 264 (((3) * x4) + (1)).toNatClampNeg) (0) x6 (0) x6 h) (fun r37 h39 => (bp (X12_kindOf x2 h39) (fun r40 => (if r40 = x1 then (bp (J9_min_7cf53 (20) (r37 + (3)) h39) (fun r42 => (X12_calmIf_61 n (X12_calmIf_6 n f) x1 x2 x3 x4 x6 x5 r42 h39))) else (X12_calmIf_61 n (X12_calmIf_6 n f) x1 x2 x3 x4 x6 x5 r37 h39)))))) else none))
set_option maxRecDepth 100000 in
set_option maxHeartbeats 4000000 in
theorem v_X12_calmIf_6 {X : WX} {G : GX} {o : Mm} {n : Nat} {rv : Int32} {hz : Mm} : ∀ (f : Nat) (x1 : Int32) (x2 : Int32) (x3 : Int32) (x4 : Int32) (x5 : Int32) (x6 : Int32) (h : Mm), X12_calmIf_6 n f x1 x2 x3 x4 x5 x6 h = some (rv, hz) → V X G RX12 cX12_calmIf 8 (some .int) 91 0 0 (QR X G false o (some (.int rv)) hz) false o 6 [(0, .ref (xa X 251)), (1, .int x1), (2, .int x2), (3, .int x3), (4, .int x4), (5, .int x5), (6, .int x6)] [] h := by
  intro f
  induction f with
  | zero => intro x1 x2 x3 x4 x5 x6 h hF; exact nomatch (show (none : Option (Int32 × Mm)) = some (rv, hz) from hF)
  | succ f ih =>
    intro x1 x2 x3 x4 x5 x6 h hF
    unfold X12_calmIf_6 at hF
    refine V.iload 6 dX12_calmIf_6 rfl ?_
    refine V.iload_n 3 dX12_calmIf_8 rfl rfl ?_
    refine V.icmp_ge (tgt := 73) dX12_calmIf_9 rfl (fun c => ?_) (fun c => ?_)
    · replace hF := (if_pos c).symm.trans hF
      refine V.iload 5 dX12_calmIf_73 rfl ?_
      cases hF
      exact V.iret dX12_calmIf_75
    · replace hF := (if_neg c).symm.trans hF
      refine V.aload_n 0 dX12_calmIf_12 rfl rfl ?_
      refine V.iload_n 2 dX12_calmIf_13 rfl rfl ?_
      refine V.aload_n 0 dX12_calmIf_14 rfl rfl ?_
      refine V.getR (v := 264) fl_X12_61 sh_251 rfl fx_251_32 (by decide) dX12_calmIf_15 ?_
      refine V.iconst (v := 3) dX12_calmIf_18 rfl ?_
      refine V.iload 4 dX12_calmIf_19 rfl ?_
      refine V.imul dX12_calmIf_21 ?_
      refine V.iconst (v := 1) dX12_calmIf_22 rfl ?_
      refine V.iadd dX12_calmIf_23 ?_
      obtain ⟨hk, hF⟩ := ck hF
      refine V.iald io_264 hk dX12_calmIf_24 ?_
      refine V.iconst (v := 0) dX12_calmIf_25 rfl ?_
      refine V.iload 6 dX12_calmIf_26 rfl ?_
      refine V.iconst (v := 0) dX12_calmIf_28 rfl ?_
      refine V.iload 6 dX12_calmIf_29 rfl ?_
      obtain ⟨r37, h39, hc38, hF⟩ := bd_s hF
      refine V.callVi mf_X12_page ml_X12_331 sh_251 (s_X12_page hc38) (by decide) rfl rfl (Nat.le_of_ble_eq_true rfl) dX12_calmIf_31 ?_
      refine V.istore [(7, _), (0, _), (1, _), (2, _), (3, _), (4, _), (5, _), (6, _)] dX12_calmIf_34 (by decide) rfl ?_
      refine V.iload 6 dX12_calmIf_36 rfl ?_
      refine V.aload_n 1 dX12_calmIf_38 rfl rfl ?_
      refine V.iload_n 3 dX12_calmIf_39 rfl rfl ?_
      obtain ⟨r40, hc41, hF⟩ := bp_s hF
      refine V.callVi mf_X12_kindOf ml_X12_328 sh_251 (s_X12_kindOf hc41) (by decide) rfl rfl (Nat.le_of_ble_eq_true rfl) dX12_calmIf_40 ?_
      refine V.iload_n 2 dX12_calmIf_43 rfl rfl ?_
      refine V.icmp_ne (tgt := 59) dX12_calmIf_44 rfl (fun c => ?_) (fun c => ?_)
      · replace hF := (if_neg c).symm.trans hF
        refine V.iload 0 dX12_calmIf_59 rfl ?_
        exact V.sub [1, 2, 3, 4, 5, 7] rfl (v_X12_calmIf_61 ih hF)
      · replace hF := (if_pos c).symm.trans hF
        refine V.bipush (v := 20) dX12_calmIf_47 (by decide) ?_
        refine V.iload 0 dX12_calmIf_49 rfl ?_
        refine V.iconst (v := 3) dX12_calmIf_51 rfl ?_
        refine V.iadd dX12_calmIf_52 ?_
        obtain ⟨r42, hc43, hF⟩ := bp_s hF
        refine V.callSi mf_J9_min_7cf53 ml_X12_315 (s_J9_min_7cf53 hc43) (by decide) rfl rfl (Nat.le_of_ble_eq_true rfl) dX12_calmIf_53 ?_
        refine V.goto (tgt := 61) dX12_calmIf_56 rfl ?_
        exact V.sub [1, 2, 3, 4, 5, 7] rfl (v_X12_calmIf_61 ih hF)
def X12_calmIf (n : Nat) (x1 : Int32) (x2 : Int32) (x3 : Int32) (x4 : Int32) (h : Mm) : Option (Int32 × Mm) := (X12_calmIf_6 n n x1 x2 x3 x4 (0) (0) h)
set_option maxRecDepth 100000 in
set_option maxHeartbeats 4000000 in
theorem s_X12_calmIf {X : WX} {o : Mm} {n : Nat} {x1 : Int32} {x2 : Int32} {x3 : Int32} {x4 : Int32} {rv : Int32} {hz : Mm} {h : Mm} (hF : X12_calmIf n x1 x2 x3 x4 h = some (rv, hz)) : Sat X yX12_calmIf cX12_calmIf 8 (some .int) 91 [.ref (xa X 251), .int x1, .int x2, .int x3, .int x4] false o h (some (.int rv)) hz := by
  unfold X12_calmIf at hF
  refine Sat.mk (own := RX12) rfl (by decide +kernel) (Nat.le_of_ble_eq_true rfl) (fun G => ?_)
  refine V.sub (lv2 := [(0, _), (1, _), (2, _), (3, _), (4, _)]) [0, 1, 2, 3, 4] rfl ?_
  refine V.iconst (v := 0) dX12_calmIf_0 rfl ?_
  refine V.istore [(5, _), (0, _), (1, _), (2, _), (3, _), (4, _)] dX12_calmIf_1 (by decide) rfl ?_
  refine V.iconst (v := 0) dX12_calmIf_3 rfl ?_
  refine V.istore [(6, _), (5, _), (0, _), (1, _), (2, _), (3, _), (4, _)] dX12_calmIf_4 (by decide) rfl ?_
  exact V.sub [2, 3, 4, 5, 6, 1, 0] rfl (v_X12_calmIf_6 n _ _ _ _ _ _ _ hF)
/-! MonsterCotModel.isLiked -/
theorem dX12_isLiked_0 : decode cX12_isLiked 0 = .ok (.iconst 0, 1) := by decide +kernel
theorem dX12_isLiked_1 : decode cX12_isLiked 1 = .ok (.istore_n 2, 1) := by decide +kernel
theorem dX12_isLiked_2 : decode cX12_isLiked 2 = .ok (.iload_n 2, 1) := by decide +kernel
theorem dX12_isLiked_3 : decode cX12_isLiked 3 = .ok (.aload_n 0, 1) := by decide +kernel
theorem dX12_isLiked_4 : decode cX12_isLiked 4 = .ok (.getfield 294, 3) := by decide +kernel
theorem dX12_isLiked_7 : decode cX12_isLiked 7 = .ok (.if_icmp .ge 84, 3) := by decide +kernel
theorem dX12_isLiked_10 : decode cX12_isLiked 10 = .ok (.aload_n 0, 1) := by decide +kernel
theorem dX12_isLiked_11 : decode cX12_isLiked 11 = .ok (.iload_n 1, 1) := by decide +kernel
theorem dX12_isLiked_12 : decode cX12_isLiked 12 = .ok (.aload_n 0, 1) := by decide +kernel
theorem dX12_isLiked_13 : decode cX12_isLiked 13 = .ok (.getfield 84, 3) := by decide +kernel
theorem dX12_isLiked_16 : decode cX12_isLiked 16 = .ok (.iconst 5, 1) := by decide +kernel
theorem dX12_isLiked_17 : decode cX12_isLiked 17 = .ok (.iload_n 2, 1) := by decide +kernel
theorem dX12_isLiked_18 : decode cX12_isLiked 18 = .ok (.imul, 1) := by decide +kernel
theorem dX12_isLiked_19 : decode cX12_isLiked 19 = .ok (.iaload, 1) := by decide +kernel
theorem dX12_isLiked_20 : decode cX12_isLiked 20 = .ok (.aload_n 0, 1) := by decide +kernel
theorem dX12_isLiked_21 : decode cX12_isLiked 21 = .ok (.getfield 84, 3) := by decide +kernel
theorem dX12_isLiked_24 : decode cX12_isLiked 24 = .ok (.iconst 5, 1) := by decide +kernel
theorem dX12_isLiked_25 : decode cX12_isLiked 25 = .ok (.iload_n 2, 1) := by decide +kernel
theorem dX12_isLiked_26 : decode cX12_isLiked 26 = .ok (.imul, 1) := by decide +kernel
theorem dX12_isLiked_27 : decode cX12_isLiked 27 = .ok (.iconst 1, 1) := by decide +kernel
theorem dX12_isLiked_28 : decode cX12_isLiked 28 = .ok (.iadd, 1) := by decide +kernel
theorem dX12_isLiked_29 : decode cX12_isLiked 29 = .ok (.iaload, 1) := by decide +kernel
theorem dX12_isLiked_30 : decode cX12_isLiked 30 = .ok (.aload_n 0, 1) := by decide +kernel
theorem dX12_isLiked_31 : decode cX12_isLiked 31 = .ok (.getfield 84, 3) := by decide +kernel
theorem dX12_isLiked_34 : decode cX12_isLiked 34 = .ok (.iconst 5, 1) := by decide +kernel
theorem dX12_isLiked_35 : decode cX12_isLiked 35 = .ok (.iload_n 2, 1) := by decide +kernel
theorem dX12_isLiked_36 : decode cX12_isLiked 36 = .ok (.imul, 1) := by decide +kernel
theorem dX12_isLiked_37 : decode cX12_isLiked 37 = .ok (.iconst 2, 1) := by decide +kernel
theorem dX12_isLiked_38 : decode cX12_isLiked 38 = .ok (.iadd, 1) := by decide +kernel
theorem dX12_isLiked_39 : decode cX12_isLiked 39 = .ok (.iaload, 1) := by decide +kernel
theorem dX12_isLiked_40 : decode cX12_isLiked 40 = .ok (.invokevirtual 439, 3) := by decide +kernel
theorem dX12_isLiked_43 : decode cX12_isLiked 43 = .ok (.aload_n 0, 1) := by decide +kernel
theorem dX12_isLiked_44 : decode cX12_isLiked 44 = .ok (.getfield 84, 3) := by decide +kernel
theorem dX12_isLiked_47 : decode cX12_isLiked 47 = .ok (.iconst 5, 1) := by decide +kernel
theorem dX12_isLiked_48 : decode cX12_isLiked 48 = .ok (.iload_n 2, 1) := by decide +kernel
theorem dX12_isLiked_49 : decode cX12_isLiked 49 = .ok (.imul, 1) := by decide +kernel
theorem dX12_isLiked_50 : decode cX12_isLiked 50 = .ok (.iconst 3, 1) := by decide +kernel
theorem dX12_isLiked_51 : decode cX12_isLiked 51 = .ok (.iadd, 1) := by decide +kernel
theorem dX12_isLiked_52 : decode cX12_isLiked 52 = .ok (.iaload, 1) := by decide +kernel
theorem dX12_isLiked_53 : decode cX12_isLiked 53 = .ok (.if_icmp .lt 7, 3) := by decide +kernel
theorem dX12_isLiked_56 : decode cX12_isLiked 56 = .ok (.iconst 1, 1) := by decide +kernel
theorem dX12_isLiked_57 : decode cX12_isLiked 57 = .ok (.goto 4, 3) := by decide +kernel
theorem dX12_isLiked_60 : decode cX12_isLiked 60 = .ok (.iconst 0, 1) := by decide +kernel
theorem dX12_isLiked_61 : decode cX12_isLiked 61 = .ok (.aload_n 0, 1) := by decide +kernel
theorem dX12_isLiked_62 : decode cX12_isLiked 62 = .ok (.getfield 84, 3) := by decide +kernel
theorem dX12_isLiked_65 : decode cX12_isLiked 65 = .ok (.iconst 5, 1) := by decide +kernel
theorem dX12_isLiked_66 : decode cX12_isLiked 66 = .ok (.iload_n 2, 1) := by decide +kernel
theorem dX12_isLiked_67 : decode cX12_isLiked 67 = .ok (.imul, 1) := by decide +kernel
theorem dX12_isLiked_68 : decode cX12_isLiked 68 = .ok (.iconst 4, 1) := by decide +kernel
theorem dX12_isLiked_69 : decode cX12_isLiked 69 = .ok (.iadd, 1) := by decide +kernel
theorem dX12_isLiked_70 : decode cX12_isLiked 70 = .ok (.iaload, 1) := by decide +kernel
theorem dX12_isLiked_71 : decode cX12_isLiked 71 = .ok (.iconst 1, 1) := by decide +kernel
theorem dX12_isLiked_72 : decode cX12_isLiked 72 = .ok (.if_icmp .ne 7, 3) := by decide +kernel
theorem dX12_isLiked_75 : decode cX12_isLiked 75 = .ok (.iconst 1, 1) := by decide +kernel
theorem dX12_isLiked_76 : decode cX12_isLiked 76 = .ok (.goto 4, 3) := by decide +kernel
theorem dX12_isLiked_79 : decode cX12_isLiked 79 = .ok (.iconst 0, 1) := by decide +kernel
theorem dX12_isLiked_80 : decode cX12_isLiked 80 = .ok (.if_icmp .eq 5, 3) := by decide +kernel
theorem dX12_isLiked_83 : decode cX12_isLiked 83 = .ok (.iconst 0, 1) := by decide +kernel
theorem dX12_isLiked_84 : decode cX12_isLiked 84 = .ok (.ireturn, 1) := by decide +kernel
theorem dX12_isLiked_85 : decode cX12_isLiked 85 = .ok (.iinc 2 1, 3) := by decide +kernel
theorem dX12_isLiked_88 : decode cX12_isLiked 88 = .ok (.goto (-86), 3) := by decide +kernel
theorem dX12_isLiked_91 : decode cX12_isLiked 91 = .ok (.iconst 1, 1) := by decide +kernel
theorem dX12_isLiked_92 : decode cX12_isLiked 92 = .ok (.ireturn, 1) := by decide +kernel
def X12_isLiked_80 (n : Nat) (K2 : Int32 → Int32 → Mm → Option (Bool × Mm)) (x1 : Int32) (x2 : Int32) (s0 : Bool) (s1 : Bool) (h : Mm) : Option (Bool × Mm) := (if (b2i s0) = (b2i s1) then (K2 x1 (x2 + (1)) h) else (some (false, h)))
set_option maxRecDepth 100000 in
set_option maxHeartbeats 4000000 in
theorem v_X12_isLiked_80 {X : WX} {G : GX} {o : Mm} {n : Nat} {K2 : Int32 → Int32 → Mm → Option (Bool × Mm)} {rv : Bool} {hz : Mm} (hK2 : ∀ (x1 : Int32) (x2 : Int32) (h : Mm), K2 x1 x2 h = some (rv, hz) → V X G RX12 cX12_isLiked 3 (some .boolean) 92 0 0 (QR X G false o (some (.int (b2i rv))) hz) false o 2 [(0, .ref (xa X 251)), (1, .int x1), (2, .int x2)] [] h) {x1 : Int32} {x2 : Int32} {s0 : Bool} {s1 : Bool} {h : Mm} (hF : X12_isLiked_80 n K2 x1 x2 s0 s1 h = some (rv, hz)) : V X G RX12 cX12_isLiked 3 (some .boolean) 92 0 0 (QR X G false o (some (.int (b2i rv))) hz) false o 80 [(0, .ref (xa X 251)), (1, .int x1), (2, .int x2)] [.int (b2i s1), .int (b2i s0)] h := by
  unfold X12_isLiked_80 at hF
  refine V.icmp_eq (tgt := 85) dX12_isLiked_80 rfl (fun c => ?_) (fun c => ?_)
  · replace hF := (if_pos c).symm.trans hF
    refine V.iinc (v := (x2 + (1))) 2 [(2, _), (0, _), (1, _)] dX12_isLiked_85 rfl rfl (by decide) rfl ?_
    refine V.goto (tgt := 2) dX12_isLiked_88 rfl ?_
    exact V.sub [1, 2, 0] rfl (hK2 _ _ _ hF)
  · replace hF := (if_neg c).symm.trans hF
    refine V.iconst (v := 0) dX12_isLiked_83 rfl ?_
    cases hF
    exact V.bret dX12_isLiked_84
def X12_isLiked_61 (n : Nat) (K2 : Int32 → Int32 → Mm → Option (Bool × Mm)) (x1 : Int32) (x2 : Int32) (s0 : Bool) (h : Mm) : Option (Bool × Mm) := (if inB (((5) * x2) + (4)) (aln 270) then (if (h.1 270 (((5) * x2) + (4)).toNatClampNeg) = (1) then (X12_isLiked_80 n K2 x1 x2 s0 true h) else (X12_isLiked_80 n K2 x1 x2 s0 false h)) else none)
set_option maxRecDepth 100000 in
set_option maxHeartbeats 4000000 in
theorem v_X12_isLiked_61 {X : WX} {G : GX} {o : Mm} {n : Nat} {K2 : Int32 → Int32 → Mm → Option (Bool × Mm)} {rv : Bool} {hz : Mm} (hK2 : ∀ (x1 : Int32) (x2 : Int32) (h : Mm), K2 x1 x2 h = some (rv, hz) → V X G RX12 cX12_isLiked 3 (some .boolean) 92 0 0 (QR X G false o (some (.int (b2i rv))) hz) false o 2 [(0, .ref (xa X 251)), (1, .int x1), (2, .int x2)] [] h) {x1 : Int32} {x2 : Int32} {s0 : Bool} {h : Mm} (hF : X12_isLiked_61 n K2 x1 x2 s0 h = some (rv, hz)) : V X G RX12 cX12_isLiked 3 (some .boolean) 92 0 0 (QR X G false o (some (.int (b2i rv))) hz) false o 61 [(0, .ref (xa X 251)), (1, .int x1), (2, .int x2)] [.int (b2i s0)] h := by
  unfold X12_isLiked_61 at hF
  refine V.aload_n 0 dX12_isLiked_61 rfl rfl ?_
  refine V.getR (v := 270) fl_X12_84 sh_251 rfl fx_251_46 (by decide) dX12_isLiked_62 ?_
  refine V.iconst (v := 5) dX12_isLiked_65 rfl ?_
  refine V.iload_n 2 dX12_isLiked_66 rfl rfl ?_
  refine V.imul dX12_isLiked_67 ?_
  refine V.iconst (v := 4) dX12_isLiked_68 rfl ?_
  refine V.iadd dX12_isLiked_69 ?_
  obtain ⟨hk, hF⟩ := ck hF
  refine V.iald io_270 hk dX12_isLiked_70 ?_
  refine V.iconst (v := 1) dX12_isLiked_71 rfl ?_
  refine V.icmp_ne (tgt := 79) dX12_isLiked_72 rfl (fun c => ?_) (fun c => ?_)
  · replace hF := (if_neg c).symm.trans hF
    refine V.iconst (v := 0) dX12_isLiked_79 rfl ?_
    exact (v_X12_isLiked_80 hK2 hF)
  · replace hF := (if_pos c).symm.trans hF
    refine V.iconst (v := 1) dX12_isLiked_75 rfl ?_
    refine V.goto (tgt := 80) dX12_isLiked_76 rfl ?_
    exact (v_X12_isLiked_80 hK2 hF)
def X12_isLiked_2 (n : Nat) : Nat → Int32 → Int32 → Mm → Option (Bool × Mm)
  | 0, _, _, _ => none
  | f + 1, x1, x2, h => (if (h.1 251 47) ≤ x2 then (some (true, h)) else (if inB ((5) * x2) (aln 270) then (if inB (((5) * x2) + (1)) (aln 270) then (if inB (((5) * x2) + (2)) (aln 270) then (bd (X12_calmIf n x1 (h.1 270 ((5) * x2).toNatClampNeg) (h.1 270 (((5) * x2) + (1)).toNatClampNeg) (h.1 270 (((5) * x2) + (2)).toNatClampNeg) h) (fun r16 h18 => (if inB (((5) * x2) + (3)) (aln 270) then (if r16 < (h18.1 270 (((5) * x2) + (3)).toNatClampNeg) then (X12_isLiked_61 n (X12_isLiked_2 n f) x1 x2 false h18) else (X12_isLiked_61 n (X12_isLiked_2 n f) x1 x2 true h18)) else none))) else none) else none) else none))
set_option maxRecDepth 100000 in
set_option maxHeartbeats 4000000 in
theorem v_X12_isLiked_2 {X : WX} {G : GX} {o : Mm} {n : Nat} {rv : Bool} {hz : Mm} : ∀ (f : Nat) (x1 : Int32) (x2 : Int32) (h : Mm), X12_isLiked_2 n f x1 x2 h = some (rv, hz) → V X G RX12 cX12_isLiked 3 (some .boolean) 92 0 0 (QR X G false o (some (.int (b2i rv))) hz) false o 2 [(0, .ref (xa X 251)), (1, .int x1), (2, .int x2)] [] h := by
  intro f
  induction f with
  | zero => intro x1 x2 h hF; exact nomatch (show (none : Option (Bool × Mm)) = some (rv, hz) from hF)
  | succ f ih =>
    intro x1 x2 h hF
    unfold X12_isLiked_2 at hF
    refine V.iload_n 2 dX12_isLiked_2 rfl rfl ?_
    refine V.aload_n 0 dX12_isLiked_3 rfl rfl ?_
    refine V.getI fl_X12_294 sh_251 rfl km_251 dX12_isLiked_4 ?_
    refine V.icmp_ge (tgt := 91) dX12_isLiked_7 rfl (fun c => ?_) (fun c => ?_)
    · replace hF := (if_pos c).symm.trans hF
      refine V.iconst (v := 1) dX12_isLiked_91 rfl ?_
      cases hF
      exact V.bret dX12_isLiked_92
    · replace hF := (if_neg c).symm.trans hF
      refine V.aload_n 0 dX12_isLiked_10 rfl rfl ?_
      refine V.iload_n 1 dX12_isLiked_11 rfl rfl ?_
      refine V.aload_n 0 dX12_isLiked_12 rfl rfl ?_
      refine V.getR (v := 270) fl_X12_84 sh_251 rfl fx_251_46 (by decide) dX12_isLiked_13 ?_
      refine V.iconst (v := 5) dX12_isLiked_16 rfl ?_
      refine V.iload_n 2 dX12_isLiked_17 rfl rfl ?_
      refine V.imul dX12_isLiked_18 ?_
      obtain ⟨hk, hF⟩ := ck hF
      refine V.iald io_270 hk dX12_isLiked_19 ?_
      refine V.aload_n 0 dX12_isLiked_20 rfl rfl ?_
      refine V.getR (v := 270) fl_X12_84 sh_251 rfl fx_251_46 (by decide) dX12_isLiked_21 ?_
      refine V.iconst (v := 5) dX12_isLiked_24 rfl ?_
      refine V.iload_n 2 dX12_isLiked_25 rfl rfl ?_
      refine V.imul dX12_isLiked_26 ?_
      refine V.iconst (v := 1) dX12_isLiked_27 rfl ?_
      refine V.iadd dX12_isLiked_28 ?_
      obtain ⟨hk, hF⟩ := ck hF
      refine V.iald io_270 hk dX12_isLiked_29 ?_
      refine V.aload_n 0 dX12_isLiked_30 rfl rfl ?_
      refine V.getR (v := 270) fl_X12_84 sh_251 rfl fx_251_46 (by decide) dX12_isLiked_31 ?_
      refine V.iconst (v := 5) dX12_isLiked_34 rfl ?_
      refine V.iload_n 2 dX12_isLiked_35 rfl rfl ?_
      refine V.imul dX12_isLiked_36 ?_
      refine V.iconst (v := 2) dX12_isLiked_37 rfl ?_
      refine V.iadd dX12_isLiked_38 ?_
      obtain ⟨hk, hF⟩ := ck hF
      refine V.iald io_270 hk dX12_isLiked_39 ?_
      obtain ⟨r16, h18, hc17, hF⟩ := bd_s hF
      refine V.callVi mf_X12_calmIf ml_X12_439 sh_251 (s_X12_calmIf hc17) (by decide) rfl rfl (Nat.le_of_ble_eq_true rfl) dX12_isLiked_40 ?_
      refine V.aload_n 0 dX12_isLiked_43 rfl rfl ?_
      refine V.getR (v := 270) fl_X12_84 sh_251 rfl fx_251_46 (by decide) dX12_isLiked_44 ?_
      refine V.iconst (v := 5) dX12_isLiked_47 rfl ?_
      refine V.iload_n 2 dX12_isLiked_48 rfl rfl ?_
      refine V.imul dX12_isLiked_49 ?_
      refine V.iconst (v := 3) dX12_isLiked_50 rfl ?_
      refine V.iadd dX12_isLiked_51 ?_
      obtain ⟨hk, hF⟩ := ck hF
      refine V.iald io_270 hk dX12_isLiked_52 ?_
      refine V.icmp_lt (tgt := 60) dX12_isLiked_53 rfl (fun c => ?_) (fun c => ?_)
      · replace hF := (if_pos c).symm.trans hF
        refine V.iconst (v := 0) dX12_isLiked_60 rfl ?_
        exact (v_X12_isLiked_61 ih hF)
      · replace hF := (if_neg c).symm.trans hF
        refine V.iconst (v := 1) dX12_isLiked_56 rfl ?_
        refine V.goto (tgt := 61) dX12_isLiked_57 rfl ?_
        exact (v_X12_isLiked_61 ih hF)
def X12_isLiked (n : Nat) (x1 : Int32) (h : Mm) : Option (Bool × Mm) := (X12_isLiked_2 n n x1 (0) h)
set_option maxRecDepth 100000 in
set_option maxHeartbeats 4000000 in
theorem s_X12_isLiked {X : WX} {o : Mm} {n : Nat} {x1 : Int32} {rv : Bool} {hz : Mm} {h : Mm} (hF : X12_isLiked n x1 h = some (rv, hz)) : Sat X yX12_isLiked cX12_isLiked 3 (some .boolean) 92 [.ref (xa X 251), .int x1] false o h (some (.int (b2i rv))) hz := by
  unfold X12_isLiked at hF
  refine Sat.mk (own := RX12) rfl (by decide +kernel) (Nat.le_of_ble_eq_true rfl) (fun G => ?_)
  refine V.sub (lv2 := [(0, _), (1, _)]) [0, 1] rfl ?_
  refine V.iconst (v := 0) dX12_isLiked_0 rfl ?_
  refine V.istore_n [(2, _), (0, _), (1, _)] dX12_isLiked_1 rfl (by decide) rfl ?_
  exact V.sub [1, 2, 0] rfl (v_X12_isLiked_2 n _ _ _ hF)
/-! MonsterCotModel.isCode -/
theorem dX12_isCode_0 : decode cX12_isCode 0 = .ok (.iload_n 0, 1) := by decide +kernel
theorem dX12_isCode_1 : decode cX12_isCode 1 = .ok (.iconst 4, 1) := by decide +kernel
theorem dX12_isCode_2 : decode cX12_isCode 2 = .ok (.if_icmp .lt 9, 3) := by decide +kernel
theorem dX12_isCode_5 : decode cX12_isCode 5 = .ok (.iload_n 0, 1) := by decide +kernel
theorem dX12_isCode_6 : decode cX12_isCode 6 = .ok (.bipush 9, 2) := by decide +kernel
theorem dX12_isCode_8 : decode cX12_isCode 8 = .ok (.if_icmp .ne 7, 3) := by decide +kernel
theorem dX12_isCode_11 : decode cX12_isCode 11 = .ok (.iconst 1, 1) := by decide +kernel
theorem dX12_isCode_12 : decode cX12_isCode 12 = .ok (.goto 4, 3) := by decide +kernel
theorem dX12_isCode_15 : decode cX12_isCode 15 = .ok (.iconst 0, 1) := by decide +kernel
theorem dX12_isCode_16 : decode cX12_isCode 16 = .ok (.ireturn, 1) := by decide +kernel
def X12_isCode_11 (h : Mm) : Option Bool := (some true)
set_option maxRecDepth 100000 in
set_option maxHeartbeats 4000000 in
theorem v_X12_isCode_11 {X : WX} {G : GX} {o : Mm} {rv : Bool} {h : Mm} (hF : X12_isCode_11  h = some rv) : V X G RX12 cX12_isCode 1 (some .boolean) 1 0 0 (QR X G false o (some (.int (b2i rv))) h) false o 11 [] [] h := by
  unfold X12_isCode_11 at hF
  refine V.iconst (v := 1) dX12_isCode_11 rfl ?_
  refine V.goto (tgt := 16) dX12_isCode_12 rfl ?_
  cases hF
  exact V.bret dX12_isCode_16
def X12_isCode (x0 : Int32) (h : Mm) : Option Bool := (if x0 < (4) then (X12_isCode_11 h) else (if x0 = (9) then (X12_isCode_11 h) else (some false)))
set_option maxRecDepth 100000 in
set_option maxHeartbeats 4000000 in
theorem s_X12_isCode {X : WX} {o : Mm} {x0 : Int32} {rv : Bool} {h : Mm} (hF : X12_isCode x0 h = some rv) : Sat X yX12_isCode cX12_isCode 1 (some .boolean) 1 [.int x0] false o h (some (.int (b2i rv))) h := by
  unfold X12_isCode at hF
  refine Sat.mk (own := RX12) rfl (by decide +kernel) (Nat.le_of_ble_eq_true rfl) (fun G => ?_)
  refine V.sub (lv2 := [(0, _)]) [0] rfl ?_
  refine V.iload_n 0 dX12_isCode_0 rfl rfl ?_
  refine V.iconst (v := 4) dX12_isCode_1 rfl ?_
  refine V.icmp_lt (tgt := 11) dX12_isCode_2 rfl (fun c => ?_) (fun c => ?_)
  · replace hF := (if_pos c).symm.trans hF
    exact V.sub [] rfl (v_X12_isCode_11 hF)
  · replace hF := (if_neg c).symm.trans hF
    refine V.iload_n 0 dX12_isCode_5 rfl rfl ?_
    refine V.bipush (v := 9) dX12_isCode_6 (by decide) ?_
    refine V.icmp_ne (tgt := 15) dX12_isCode_8 rfl (fun c => ?_) (fun c => ?_)
    · replace hF := (if_neg c).symm.trans hF
      refine V.iconst (v := 0) dX12_isCode_15 rfl ?_
      cases hF
      exact V.bret dX12_isCode_16
    · replace hF := (if_pos c).symm.trans hF
      exact V.sub [] rfl (v_X12_isCode_11 hF)
/-! MonsterCotModel.likes -/
theorem dX12_likes_0 : decode cX12_likes 0 = .ok (.aload_n 0, 1) := by decide +kernel
theorem dX12_likes_1 : decode cX12_likes 1 = .ok (.iconst 0, 1) := by decide +kernel
theorem dX12_likes_2 : decode cX12_likes 2 = .ok (.putfield 93, 3) := by decide +kernel
theorem dX12_likes_5 : decode cX12_likes 5 = .ok (.aload_n 0, 1) := by decide +kernel
theorem dX12_likes_6 : decode cX12_likes 6 = .ok (.getfield 291, 3) := by decide +kernel
theorem dX12_likes_9 : decode cX12_likes 9 = .ok (.ifCond .eq 8, 3) := by decide +kernel
theorem dX12_likes_12 : decode cX12_likes 12 = .ok (.iload_n 1, 1) := by decide +kernel
theorem dX12_likes_13 : decode cX12_likes 13 = .ok (.iconst (-1), 1) := by decide +kernel
theorem dX12_likes_14 : decode cX12_likes 14 = .ok (.if_icmp .ge 5, 3) := by decide +kernel
theorem dX12_likes_17 : decode cX12_likes 17 = .ok (.iconst (-1), 1) := by decide +kernel
theorem dX12_likes_18 : decode cX12_likes 18 = .ok (.ireturn, 1) := by decide +kernel
theorem dX12_likes_19 : decode cX12_likes 19 = .ok (.iconst 0, 1) := by decide +kernel
theorem dX12_likes_20 : decode cX12_likes 20 = .ok (.istore_n 2, 1) := by decide +kernel
theorem dX12_likes_21 : decode cX12_likes 21 = .ok (.iconst 0, 1) := by decide +kernel
theorem dX12_likes_22 : decode cX12_likes 22 = .ok (.istore_n 3, 1) := by decide +kernel
theorem dX12_likes_23 : decode cX12_likes 23 = .ok (.iload_n 3, 1) := by decide +kernel
theorem dX12_likes_24 : decode cX12_likes 24 = .ok (.bipush 10, 2) := by decide +kernel
theorem dX12_likes_26 : decode cX12_likes 26 = .ok (.if_icmp .ge 37, 3) := by decide +kernel
theorem dX12_likes_29 : decode cX12_likes 29 = .ok (.iload_n 3, 1) := by decide +kernel
theorem dX12_likes_30 : decode cX12_likes 30 = .ok (.invokestatic 443, 3) := by decide +kernel
theorem dX12_likes_33 : decode cX12_likes 33 = .ok (.ifCond .eq 24, 3) := by decide +kernel
theorem dX12_likes_36 : decode cX12_likes 36 = .ok (.aload_n 0, 1) := by decide +kernel
theorem dX12_likes_37 : decode cX12_likes 37 = .ok (.iload_n 3, 1) := by decide +kernel
theorem dX12_likes_38 : decode cX12_likes 38 = .ok (.invokevirtual 446, 3) := by decide +kernel
theorem dX12_likes_41 : decode cX12_likes 41 = .ok (.ifCond .ne 6, 3) := by decide +kernel
theorem dX12_likes_44 : decode cX12_likes 44 = .ok (.goto 13, 3) := by decide +kernel
theorem dX12_likes_47 : decode cX12_likes 47 = .ok (.iload_n 2, 1) := by decide +kernel
theorem dX12_likes_48 : decode cX12_likes 48 = .ok (.iload_n 1, 1) := by decide +kernel
theorem dX12_likes_49 : decode cX12_likes 49 = .ok (.if_icmp .ne 5, 3) := by decide +kernel
theorem dX12_likes_52 : decode cX12_likes 52 = .ok (.iload_n 3, 1) := by decide +kernel
theorem dX12_likes_53 : decode cX12_likes 53 = .ok (.ireturn, 1) := by decide +kernel
theorem dX12_likes_54 : decode cX12_likes 54 = .ok (.iinc 2 1, 3) := by decide +kernel
theorem dX12_likes_57 : decode cX12_likes 57 = .ok (.iinc 3 1, 3) := by decide +kernel
theorem dX12_likes_60 : decode cX12_likes 60 = .ok (.goto (-37), 3) := by decide +kernel
theorem dX12_likes_63 : decode cX12_likes 63 = .ok (.iload_n 1, 1) := by decide +kernel
theorem dX12_likes_64 : decode cX12_likes 64 = .ok (.iconst (-1), 1) := by decide +kernel
theorem dX12_likes_65 : decode cX12_likes 65 = .ok (.if_icmp .ne 7, 3) := by decide +kernel
theorem dX12_likes_68 : decode cX12_likes 68 = .ok (.iload_n 2, 1) := by decide +kernel
theorem dX12_likes_69 : decode cX12_likes 69 = .ok (.goto 4, 3) := by decide +kernel
theorem dX12_likes_72 : decode cX12_likes 72 = .ok (.iconst (-1), 1) := by decide +kernel
theorem dX12_likes_73 : decode cX12_likes 73 = .ok (.ireturn, 1) := by decide +kernel
def X12_likes_57 (n : Nat) (K23 : Int32 → Int32 → Int32 → Mm → Option (Int32 × Mm)) (x1 : Int32) (x2 : Int32) (x3 : Int32) (h : Mm) : Option (Int32 × Mm) := (K23 x1 x2 (x3 + (1)) h)
set_option maxRecDepth 100000 in
set_option maxHeartbeats 4000000 in
theorem v_X12_likes_57 {X : WX} {G : GX} {o : Mm} {n : Nat} {K23 : Int32 → Int32 → Int32 → Mm → Option (Int32 × Mm)} {rv : Int32} {hz : Mm} (hK23 : ∀ (x1 : Int32) (x2 : Int32) (x3 : Int32) (h : Mm), K23 x1 x2 x3 h = some (rv, hz) → V X G RX12 cX12_likes 4 (some .int) 93 0 0 (QR X G false o (some (.int rv)) hz) false o 23 [(0, .ref (xa X 251)), (1, .int x1), (2, .int x2), (3, .int x3)] [] h) {x1 : Int32} {x2 : Int32} {x3 : Int32} {h : Mm} (hF : X12_likes_57 n K23 x1 x2 x3 h = some (rv, hz)) : V X G RX12 cX12_likes 4 (some .int) 93 0 0 (QR X G false o (some (.int rv)) hz) false o 57 [(0, .ref (xa X 251)), (1, .int x1), (2, .int x2), (3, .int x3)] [] h := by
  unfold X12_likes_57 at hF
  refine V.iinc (v := (x3 + (1))) 3 [(3, _), (0, _), (1, _), (2, _)] dX12_likes_57 rfl rfl (by decide) rfl ?_
  refine V.goto (tgt := 23) dX12_likes_60 rfl ?_
  exact V.sub [1, 2, 3, 0] rfl (hK23 _ _ _ _ hF)
def X12_likes_23 (n : Nat) : Nat → Int32 → Int32 → Int32 → Mm → Option (Int32 × Mm)
  | 0, _, _, _, _ => none
  | f + 1, x1, x2, x3, h => (if (10) ≤ x3 then (if x1 = (-1) then (some (x2, h)) else (some ((-1), h))) else (bp (X12_isCode x3 h) (fun r21 => (if r21 = true then (bd (X12_isLiked n x3 h) (fun r23 h25 => (if r23 = true then (if x2 = x1 then (some (x3, h25)) else (X12_likes_57 n (X12_likes_23 n f) x1 (x2 + (1)) x3 h25)) else (X12_likes_57 n (X12_likes_23 n f) x1 x2 x3 h25)))) else (X12_likes_57 n (X12_likes_23 n f) x1 x2 x3 h)))))
set_option maxRecDepth 100000 in
set_option maxHeartbeats 4000000 in
theorem v_X12_likes_23 {X : WX} {G : GX} {o : Mm} {n : Nat} {rv : Int32} {hz : Mm} : ∀ (f : Nat) (x1 : Int32) (x2 : Int32) (x3 : Int32) (h : Mm), X12_likes_23 n f x1 x2 x3 h = some (rv, hz) → V X G RX12 cX12_likes 4 (some .int) 93 0 0 (QR X G false o (some (.int rv)) hz) false o 23 [(0, .ref (xa X 251)), (1, .int x1), (2, .int x2), (3, .int x3)] [] h := by
  intro f
  induction f with
  | zero => intro x1 x2 x3 h hF; exact nomatch (show (none : Option (Int32 × Mm)) = some (rv, hz) from hF)
  | succ f ih =>
    intro x1 x2 x3 h hF
    unfold X12_likes_23 at hF
    refine V.iload_n 3 dX12_likes_23 rfl rfl ?_
    refine V.bipush (v := 10) dX12_likes_24 (by decide) ?_
    refine V.icmp_ge (tgt := 63) dX12_likes_26 rfl (fun c => ?_) (fun c => ?_)
    · replace hF := (if_pos c).symm.trans hF
      refine V.iload_n 1 dX12_likes_63 rfl rfl ?_
      refine V.iconst (v := -1) dX12_likes_64 rfl ?_
      refine V.icmp_ne (tgt := 72) dX12_likes_65 rfl (fun c => ?_) (fun c => ?_)
      · replace hF := (if_neg c).symm.trans hF
        refine V.iconst (v := -1) dX12_likes_72 rfl ?_
        cases hF
        exact V.iret dX12_likes_73
      · replace hF := (if_pos c).symm.trans hF
        refine V.iload_n 2 dX12_likes_68 rfl rfl ?_
        refine V.goto (tgt := 73) dX12_likes_69 rfl ?_
        cases hF
        exact V.iret dX12_likes_73
    · replace hF := (if_neg c).symm.trans hF
      refine V.iload_n 3 dX12_likes_29 rfl rfl ?_
      obtain ⟨r21, hc22, hF⟩ := bp_s hF
      refine V.callSi mf_X12_isCode ml_X12_443 (s_X12_isCode hc22) (by decide) rfl rfl (Nat.le_of_ble_eq_true rfl) dX12_likes_30 ?_
      refine V.ifz_eq (tgt := 57) dX12_likes_33 rfl (fun c => ?_) (fun c => ?_)
      · replace hF := (if_neg c).symm.trans hF
        exact (v_X12_likes_57 ih hF)
      · replace hF := (if_pos c).symm.trans hF
        refine V.aload_n 0 dX12_likes_36 rfl rfl ?_
        refine V.iload_n 3 dX12_likes_37 rfl rfl ?_
        obtain ⟨r23, h25, hc24, hF⟩ := bd_s hF
        refine V.callVi mf_X12_isLiked ml_X12_446 sh_251 (s_X12_isLiked hc24) (by decide) rfl rfl (Nat.le_of_ble_eq_true rfl) dX12_likes_38 ?_
        refine V.ifz_ne (tgt := 47) dX12_likes_41 rfl (fun c => ?_) (fun c => ?_)
        · replace hF := (if_pos c).symm.trans hF
          refine V.iload_n 2 dX12_likes_47 rfl rfl ?_
          refine V.iload_n 1 dX12_likes_48 rfl rfl ?_
          refine V.icmp_ne (tgt := 54) dX12_likes_49 rfl (fun c => ?_) (fun c => ?_)
          · replace hF := (if_neg c).symm.trans hF
            refine V.iinc (v := (x2 + (1))) 2 [(2, _), (0, _), (1, _), (3, _)] dX12_likes_54 rfl rfl (by decide) rfl ?_
            exact V.sub [1, 2, 0, 3] rfl (v_X12_likes_57 ih hF)
          · replace hF := (if_pos c).symm.trans hF
            refine V.iload_n 3 dX12_likes_52 rfl rfl ?_
            cases hF
            exact V.iret dX12_likes_53
        · replace hF := (if_neg c).symm.trans hF
          refine V.goto (tgt := 57) dX12_likes_44 rfl ?_
          exact (v_X12_likes_57 ih hF)
def X12_likes (n : Nat) (x1 : Int32) (h : Mm) : Option (Int32 × Mm) := (if ((wI h 251 0 (0)).1 251 27) = 0 then (some ((-1), (wI h 251 0 (0)))) else (if (-1) ≤ x1 then (X12_likes_23 n n x1 (0) (0) (wI h 251 0 (0))) else (some ((-1), (wI h 251 0 (0))))))
set_option maxRecDepth 100000 in
set_option maxHeartbeats 4000000 in
theorem s_X12_likes {X : WX} {o : Mm} {n : Nat} {x1 : Int32} {rv : Int32} {hz : Mm} {h : Mm} (hF : X12_likes n x1 h = some (rv, hz)) : Sat X yX12_likes cX12_likes 4 (some .int) 93 [.ref (xa X 251), .int x1] false o h (some (.int rv)) hz := by
  unfold X12_likes at hF
  refine Sat.mk (own := RX12) rfl (by decide +kernel) (Nat.le_of_ble_eq_true rfl) (fun G => ?_)
  refine V.sub (lv2 := [(0, _), (1, _)]) [0, 1] rfl ?_
  refine V.aload_n 0 dX12_likes_0 rfl rfl ?_
  refine V.iconst (v := 0) dX12_likes_1 rfl ?_
  refine V.putI fl_X12_93 rfl (tyX12_ok 0 (by decide)) rfl rfl sh_251 rfl km_251 dX12_likes_2 ?_
  refine V.aload_n 0 dX12_likes_5 rfl rfl ?_
  refine V.getI fl_X12_291 sh_251 rfl km_251 dX12_likes_6 ?_
  refine V.if_eq (tgt := 17) dX12_likes_9 rfl (fun c => ?_) (fun c => ?_)
  · replace hF := (if_pos c).symm.trans hF
    refine V.iconst (v := -1) dX12_likes_17 rfl ?_
    cases hF
    exact V.iret dX12_likes_18
  · replace hF := (if_neg c).symm.trans hF
    refine V.iload_n 1 dX12_likes_12 rfl rfl ?_
    refine V.iconst (v := -1) dX12_likes_13 rfl ?_
    refine V.icmp_ge (tgt := 19) dX12_likes_14 rfl (fun c => ?_) (fun c => ?_)
    · replace hF := (if_pos c).symm.trans hF
      refine V.iconst (v := 0) dX12_likes_19 rfl ?_
      refine V.istore_n [(2, _), (0, _), (1, _)] dX12_likes_20 rfl (by decide) rfl ?_
      refine V.iconst (v := 0) dX12_likes_21 rfl ?_
      refine V.istore_n [(3, _), (2, _), (0, _), (1, _)] dX12_likes_22 rfl (by decide) rfl ?_
      exact V.sub [2, 3, 1, 0] rfl (v_X12_likes_23 n _ _ _ _ hF)
    · replace hF := (if_neg c).symm.trans hF
      refine V.iconst (v := -1) dX12_likes_17 rfl ?_
      cases hF
      exact V.iret dX12_likes_18
/-! MonsterCotModel.probe -/
theorem dX12_probe_0 : decode cX12_probe 0 = .ok (.aload_n 0, 1) := by decide +kernel
theorem dX12_probe_1 : decode cX12_probe 1 = .ok (.iconst 0, 1) := by decide +kernel
theorem dX12_probe_2 : decode cX12_probe 2 = .ok (.putfield 93, 3) := by decide +kernel
theorem dX12_probe_5 : decode cX12_probe 5 = .ok (.aload_n 0, 1) := by decide +kernel
theorem dX12_probe_6 : decode cX12_probe 6 = .ok (.iload_n 1, 1) := by decide +kernel
theorem dX12_probe_7 : decode cX12_probe 7 = .ok (.invokevirtual 337, 3) := by decide +kernel
theorem dX12_probe_10 : decode cX12_probe 10 = .ok (.ifCond .eq 15, 3) := by decide +kernel
theorem dX12_probe_13 : decode cX12_probe 13 = .ok (.iload_n 2, 1) := by decide +kernel
theorem dX12_probe_14 : decode cX12_probe 14 = .ok (.i2l, 1) := by decide +kernel
theorem dX12_probe_15 : decode cX12_probe 15 = .ok (.lconst 0, 1) := by decide +kernel
theorem dX12_probe_16 : decode cX12_probe 16 = .ok (.ldc2_w 437, 3) := by decide +kernel
theorem dX12_probe_19 : decode cX12_probe 19 = .ok (.invokestatic 214, 3) := by decide +kernel
theorem dX12_probe_22 : decode cX12_probe 22 = .ok (.ifCond .ne 5, 3) := by decide +kernel
theorem dX12_probe_25 : decode cX12_probe 25 = .ok (.iconst (-1), 1) := by decide +kernel
theorem dX12_probe_26 : decode cX12_probe 26 = .ok (.ireturn, 1) := by decide +kernel
theorem dX12_probe_27 : decode cX12_probe 27 = .ok (.iconst 0, 1) := by decide +kernel
theorem dX12_probe_28 : decode cX12_probe 28 = .ok (.istore_n 3, 1) := by decide +kernel
theorem dX12_probe_29 : decode cX12_probe 29 = .ok (.iconst 0, 1) := by decide +kernel
theorem dX12_probe_30 : decode cX12_probe 30 = .ok (.istore 4, 2) := by decide +kernel
theorem dX12_probe_32 : decode cX12_probe 32 = .ok (.iload 4, 2) := by decide +kernel
theorem dX12_probe_34 : decode cX12_probe 34 = .ok (.bipush 10, 2) := by decide +kernel
theorem dX12_probe_36 : decode cX12_probe 36 = .ok (.if_icmp .ge 37, 3) := by decide +kernel
theorem dX12_probe_39 : decode cX12_probe 39 = .ok (.iload_n 3, 1) := by decide +kernel
theorem dX12_probe_40 : decode cX12_probe 40 = .ok (.iload 4, 2) := by decide +kernel
theorem dX12_probe_42 : decode cX12_probe 42 = .ok (.invokestatic 443, 3) := by decide +kernel
theorem dX12_probe_45 : decode cX12_probe 45 = .ok (.ifCond .eq 19, 3) := by decide +kernel
theorem dX12_probe_48 : decode cX12_probe 48 = .ok (.aload_n 0, 1) := by decide +kernel
theorem dX12_probe_49 : decode cX12_probe 49 = .ok (.iload 4, 2) := by decide +kernel
theorem dX12_probe_51 : decode cX12_probe 51 = .ok (.invokevirtual 446, 3) := by decide +kernel
theorem dX12_probe_54 : decode cX12_probe 54 = .ok (.ifCond .eq 10, 3) := by decide +kernel
theorem dX12_probe_57 : decode cX12_probe 57 = .ok (.iconst 1, 1) := by decide +kernel
theorem dX12_probe_58 : decode cX12_probe 58 = .ok (.iload 4, 2) := by decide +kernel
theorem dX12_probe_60 : decode cX12_probe 60 = .ok (.ishl, 1) := by decide +kernel
theorem dX12_probe_61 : decode cX12_probe 61 = .ok (.goto 4, 3) := by decide +kernel
theorem dX12_probe_64 : decode cX12_probe 64 = .ok (.iconst 0, 1) := by decide +kernel
theorem dX12_probe_65 : decode cX12_probe 65 = .ok (.ior, 1) := by decide +kernel
theorem dX12_probe_66 : decode cX12_probe 66 = .ok (.istore_n 3, 1) := by decide +kernel
theorem dX12_probe_67 : decode cX12_probe 67 = .ok (.iinc 4 1, 3) := by decide +kernel
theorem dX12_probe_70 : decode cX12_probe 70 = .ok (.goto (-38), 3) := by decide +kernel
theorem dX12_probe_73 : decode cX12_probe 73 = .ok (.iload_n 3, 1) := by decide +kernel
theorem dX12_probe_74 : decode cX12_probe 74 = .ok (.ifCond .ne 5, 3) := by decide +kernel
theorem dX12_probe_77 : decode cX12_probe 77 = .ok (.iconst (-1), 1) := by decide +kernel
theorem dX12_probe_78 : decode cX12_probe 78 = .ok (.ireturn, 1) := by decide +kernel
theorem dX12_probe_79 : decode cX12_probe 79 = .ok (.iconst (-1), 1) := by decide +kernel
theorem dX12_probe_80 : decode cX12_probe 80 = .ok (.istore 4, 2) := by decide +kernel
theorem dX12_probe_82 : decode cX12_probe 82 = .ok (.iconst 0, 1) := by decide +kernel
theorem dX12_probe_83 : decode cX12_probe 83 = .ok (.istore 5, 2) := by decide +kernel
theorem dX12_probe_85 : decode cX12_probe 85 = .ok (.iconst 0, 1) := by decide +kernel
theorem dX12_probe_86 : decode cX12_probe 86 = .ok (.istore 6, 2) := by decide +kernel
theorem dX12_probe_88 : decode cX12_probe 88 = .ok (.iload 6, 2) := by decide +kernel
theorem dX12_probe_90 : decode cX12_probe 90 = .ok (.aload_n 0, 1) := by decide +kernel
theorem dX12_probe_91 : decode cX12_probe 91 = .ok (.getfield 288, 3) := by decide +kernel
theorem dX12_probe_94 : decode cX12_probe 94 = .ok (.if_icmp .ge 97, 3) := by decide +kernel
theorem dX12_probe_97 : decode cX12_probe 97 = .ok (.iconst 0, 1) := by decide +kernel
theorem dX12_probe_98 : decode cX12_probe 98 = .ok (.istore 7, 2) := by decide +kernel
theorem dX12_probe_100 : decode cX12_probe 100 = .ok (.iconst 0, 1) := by decide +kernel
theorem dX12_probe_101 : decode cX12_probe 101 = .ok (.istore 8, 2) := by decide +kernel
theorem dX12_probe_103 : decode cX12_probe 103 = .ok (.iload 8, 2) := by decide +kernel
theorem dX12_probe_105 : decode cX12_probe 105 = .ok (.bipush 10, 2) := by decide +kernel
theorem dX12_probe_107 : decode cX12_probe 107 = .ok (.if_icmp .ge 47, 3) := by decide +kernel
theorem dX12_probe_110 : decode cX12_probe 110 = .ok (.iload_n 3, 1) := by decide +kernel
theorem dX12_probe_111 : decode cX12_probe 111 = .ok (.iload 8, 2) := by decide +kernel
theorem dX12_probe_113 : decode cX12_probe 113 = .ok (.invokestatic 226, 3) := by decide +kernel
theorem dX12_probe_116 : decode cX12_probe 116 = .ok (.ifCond .eq 32, 3) := by decide +kernel
theorem dX12_probe_119 : decode cX12_probe 119 = .ok (.iload 7, 2) := by decide +kernel
theorem dX12_probe_121 : decode cX12_probe 121 = .ok (.aload_n 0, 1) := by decide +kernel
theorem dX12_probe_122 : decode cX12_probe 122 = .ok (.iload 8, 2) := by decide +kernel
theorem dX12_probe_124 : decode cX12_probe 124 = .ok (.iload 6, 2) := by decide +kernel
theorem dX12_probe_126 : decode cX12_probe 126 = .ok (.aload_n 0, 1) := by decide +kernel
theorem dX12_probe_127 : decode cX12_probe 127 = .ok (.iload 6, 2) := by decide +kernel
theorem dX12_probe_129 : decode cX12_probe 129 = .ok (.invokevirtual 322, 3) := by decide +kernel
theorem dX12_probe_132 : decode cX12_probe 132 = .ok (.iload_n 1, 1) := by decide +kernel
theorem dX12_probe_133 : decode cX12_probe 133 = .ok (.invokevirtual 439, 3) := by decide +kernel
theorem dX12_probe_136 : decode cX12_probe 136 = .ok (.iload_n 2, 1) := by decide +kernel
theorem dX12_probe_137 : decode cX12_probe 137 = .ok (.if_icmp .lt 7, 3) := by decide +kernel
theorem dX12_probe_140 : decode cX12_probe 140 = .ok (.iconst 1, 1) := by decide +kernel
theorem dX12_probe_141 : decode cX12_probe 141 = .ok (.goto 4, 3) := by decide +kernel
theorem dX12_probe_144 : decode cX12_probe 144 = .ok (.iconst (-1), 1) := by decide +kernel
theorem dX12_probe_145 : decode cX12_probe 145 = .ok (.iadd, 1) := by decide +kernel
theorem dX12_probe_146 : decode cX12_probe 146 = .ok (.istore 7, 2) := by decide +kernel
theorem dX12_probe_148 : decode cX12_probe 148 = .ok (.iinc 8 1, 3) := by decide +kernel
theorem dX12_probe_151 : decode cX12_probe 151 = .ok (.goto (-48), 3) := by decide +kernel
theorem dX12_probe_154 : decode cX12_probe 154 = .ok (.iload 7, 2) := by decide +kernel
theorem dX12_probe_156 : decode cX12_probe 156 = .ok (.invokestatic 449, 3) := by decide +kernel
theorem dX12_probe_159 : decode cX12_probe 159 = .ok (.istore 7, 2) := by decide +kernel
theorem dX12_probe_161 : decode cX12_probe 161 = .ok (.iload 4, 2) := by decide +kernel
theorem dX12_probe_163 : decode cX12_probe 163 = .ok (.iconst (-1), 1) := by decide +kernel
theorem dX12_probe_164 : decode cX12_probe 164 = .ok (.if_icmp .eq 13, 3) := by decide +kernel
theorem dX12_probe_167 : decode cX12_probe 167 = .ok (.iload 7, 2) := by decide +kernel
theorem dX12_probe_169 : decode cX12_probe 169 = .ok (.iload 5, 2) := by decide +kernel
theorem dX12_probe_171 : decode cX12_probe 171 = .ok (.if_icmp .lt 6, 3) := by decide +kernel
theorem dX12_probe_174 : decode cX12_probe 174 = .ok (.goto 11, 3) := by decide +kernel
theorem dX12_probe_177 : decode cX12_probe 177 = .ok (.iload 6, 2) := by decide +kernel
theorem dX12_probe_179 : decode cX12_probe 179 = .ok (.istore 4, 2) := by decide +kernel
theorem dX12_probe_181 : decode cX12_probe 181 = .ok (.iload 7, 2) := by decide +kernel
theorem dX12_probe_183 : decode cX12_probe 183 = .ok (.istore 5, 2) := by decide +kernel
theorem dX12_probe_185 : decode cX12_probe 185 = .ok (.iinc 6 1, 3) := by decide +kernel
theorem dX12_probe_188 : decode cX12_probe 188 = .ok (.goto (-100), 3) := by decide +kernel
theorem dX12_probe_191 : decode cX12_probe 191 = .ok (.iload 4, 2) := by decide +kernel
theorem dX12_probe_193 : decode cX12_probe 193 = .ok (.ireturn, 1) := by decide +kernel
def X12_probe_65 (n : Nat) (K32 : Int32 → Int32 → Int32 → Int32 → Mm → Option (Int32 × Mm)) (x1 : Int32) (x2 : Int32) (x4 : Int32) (s0 : Int32) (s1 : Int32) (h : Mm) : Option (Int32 × Mm) := (K32 x1 x2 (s0 ||| s1) (x4 + (1)) h)
set_option maxRecDepth 100000 in
set_option maxHeartbeats 4000000 in
theorem v_X12_probe_65 {X : WX} {G : GX} {o : Mm} {n : Nat} {K32 : Int32 → Int32 → Int32 → Int32 → Mm → Option (Int32 × Mm)} {rv : Int32} {hz : Mm} (hK32 : ∀ (x1 : Int32) (x2 : Int32) (x3 : Int32) (x4 : Int32) (h : Mm), K32 x1 x2 x3 x4 h = some (rv, hz) → V X G RX12 cX12_probe 9 (some .int) 93 0 0 (QR X G false o (some (.int rv)) hz) false o 32 [(0, .ref (xa X 251)), (1, .int x1), (2, .int x2), (3, .int x3), (4, .int x4)] [] h) {x1 : Int32} {x2 : Int32} {x4 : Int32} {s0 : Int32} {s1 : Int32} {h : Mm} (hF : X12_probe_65 n K32 x1 x2 x4 s0 s1 h = some (rv, hz)) : V X G RX12 cX12_probe 9 (some .int) 93 0 0 (QR X G false o (some (.int rv)) hz) false o 65 [(0, .ref (xa X 251)), (1, .int x1), (2, .int x2), (4, .int x4)] [.int s1, .int s0] h := by
  unfold X12_probe_65 at hF
  refine V.ior dX12_probe_65 ?_
  refine V.istore_n [(3, _), (0, _), (1, _), (2, _), (4, _)] dX12_probe_66 rfl (by decide) rfl ?_
  refine V.iinc (v := (x4 + (1))) 4 [(4, _), (3, _), (0, _), (1, _), (2, _)] dX12_probe_67 rfl rfl (by decide) rfl ?_
  refine V.goto (tgt := 32) dX12_probe_70 rfl ?_
  exact V.sub [2, 3, 4, 1, 0] rfl (hK32 _ _ _ _ _ hF)
def X12_probe_64 (n : Nat) (K32 : Int32 → Int32 → Int32 → Int32 → Mm → Option (Int32 × Mm)) (x1 : Int32) (x2 : Int32) (x4 : Int32) (s0 : Int32) (h : Mm) : Option (Int32 × Mm) := (X12_probe_65 n K32 x1 x2 x4 s0 (0) h)
set_option maxRecDepth 100000 in
set_option maxHeartbeats 4000000 in
theorem v_X12_probe_64 {X : WX} {G : GX} {o : Mm} {n : Nat} {K32 : Int32 → Int32 → Int32 → Int32 → Mm → Option (Int32 × Mm)} {rv : Int32} {hz : Mm} (hK32 : ∀ (x1 : Int32) (x2 : Int32) (x3 : Int32) (x4 : Int32) (h : Mm), K32 x1 x2 x3 x4 h = some (rv, hz) → V X G RX12 cX12_probe 9 (some .int) 93 0 0 (QR X G false o (some (.int rv)) hz) false o 32 [(0, .ref (xa X 251)), (1, .int x1), (2, .int x2), (3, .int x3), (4, .int x4)] [] h) {x1 : Int32} {x2 : Int32} {x4 : Int32} {s0 : Int32} {h : Mm} (hF : X12_probe_64 n K32 x1 x2 x4 s0 h = some (rv, hz)) : V X G RX12 cX12_probe 9 (some .int) 93 0 0 (QR X G false o (some (.int rv)) hz) false o 64 [(0, .ref (xa X 251)), (1, .int x1), (2, .int x2), (4, .int x4)] [.int s0] h := by
  unfold X12_probe_64 at hF
  refine V.iconst (v := 0) dX12_probe_64 rfl ?_
  exact (v_X12_probe_65 hK32 hF)
def X12_probe_148 (n : Nat) (K88 : Int32 → Int32 → Int32 → Int32 → Int32 → Int32 → Mm → Option (Int32 × Mm)) (K103 : Int32 → Int32 → Int32 → Int32 → Int32 → Int32 → Int32 → Int32 → Mm → Option (Int32 × Mm)) (x1 : Int32) (x2 : Int32) (x3 : Int32) (x4 : Int32) (x5 : Int32) (x6 : Int32) (x7 : Int32) (x8 : Int32) (h : Mm) : Option (Int32 × Mm) := (K103 x1 x2 x3 x4 x5 x6 x7 (x8 + (1)) h)
set_option maxRecDepth 100000 in
set_option maxHeartbeats 4000000 in
theorem v_X12_probe_148 {X : WX} {G : GX} {o : Mm} {n : Nat} {K88 : Int32 → Int32 → Int32 → Int32 → Int32 → Int32 → Mm → Option (Int32 × Mm)} {K103 : Int32 → Int32 → Int32 → Int32 → Int32 → Int32 → Int32 → Int32 → Mm → Option (Int32 × Mm)} {rv : Int32} {hz : Mm} (hK88 : ∀ (x1 : Int32) (x2 : Int32) (x3 : Int32) (x4 : Int32) (x5 : Int32) (x6 : Int32) (h : Mm), K88 x1 x2 x3 x4 x5 x6 h = some (rv, hz) → V X G RX12 cX12_probe 9 (some .int) 93 0 0 (QR X G false o (some (.int rv)) hz) false o 88 [(0, .ref (xa X 251)), (1, .int x1), (2, .int x2), (3, .int x3), (4, .int x4), (5, .int x5), (6, .int x6)] [] h) (hK103 : ∀ (x1 : Int32) (x2 : Int32) (x3 : Int32) (x4 : Int32) (x5 : Int32) (x6 : Int32) (x7 : Int32) (x8 : Int32) (h : Mm), K103 x1 x2 x3 x4 x5 x6 x7 x8 h = some (rv, hz) → V X G RX12 cX12_probe 9 (some .int) 93 0 0 (QR X G false o (some (.int rv)) hz) false o 103 [(0, .ref (xa X 251)), (1, .int x1), (2, .int x2), (3, .int x3), (4, .int x4), (5, .int x5), (6, .int x6), (7, .int x7), (8, .int x8)] [] h) {x1 : Int32} {x2 : Int32} {x3 : Int32} {x4 : Int32} {x5 : Int32} {x6 : Int32} {x7 : Int32} {x8 : Int32} {h : Mm} (hF : X12_probe_148 n K88 K103 x1 x2 x3 x4 x5 x6 x7 x8 h = some (rv, hz)) : V X G RX12 cX12_probe 9 (some .int) 93 0 0 (QR X G false o (some (.int rv)) hz) false o 148 [(0, .ref (xa X 251)), (1, .int x1), (2, .int x2), (3, .int x3), (4, .int x4), (5, .int x5), (6, .int x6), (7, .int x7), (8, .int x8)] [] h := by
  unfold X12_probe_148 at hF
  refine V.iinc (v := (x8 + (1))) 8 [(8, _), (0, _), (1, _), (2, _), (3, _), (4, _), (5, _), (6, _), (7, _)] dX12_probe_148 rfl rfl (by decide) rfl ?_
  refine V.goto (tgt := 103) dX12_probe_151 rfl ?_
  exact V.sub [1, 2, 3, 4, 5, 6, 7, 8, 0] rfl (hK103 _ _ _ _ _ _ _ _ _ hF)
def X12_probe_145 (n : Nat) (K88 : Int32 → Int32 → Int32 → Int32 → Int32 → Int32 → Mm → Option (Int32 × Mm)) (K103 : Int32 → Int32 → Int32 → Int32 → Int32 → Int32 → Int32 → Int32 → Mm → Option (Int32 × Mm)) (x1 : Int32) (x2 : Int32) (x3 : Int32) (x4 : Int32) (x5 : Int32) (x6 : Int32) (x8 : Int32) (s0 : Int32) (s1 : Int32) (h : Mm) : Option (Int32 × Mm) := (X12_probe_148 n K88 K103 x1 x2 x3 x4 x5 x6 (s0 + s1) x8 h)
set_option maxRecDepth 100000 in
set_option maxHeartbeats 4000000 in
theorem v_X12_probe_145 {X : WX} {G : GX} {o : Mm} {n : Nat} {K88 : Int32 → Int32 → Int32 → Int32 → Int32 → Int32 → Mm → Option (Int32 × Mm)} {K103 : Int32 → Int32 → Int32 → Int32 → Int32 → Int32 → Int32 → Int32 → Mm → Option (Int32 × Mm)} {rv : Int32} {hz : Mm} (hK88 : ∀ (x1 : Int32) (x2 : Int32) (x3 : Int32) (x4 : Int32) (x5 : Int32) (x6 : Int32) (h : Mm), K88 x1 x2 x3 x4 x5 x6 h = some (rv, hz) → V X G RX12 cX12_probe 9 (some .int) 93 0 0 (QR X G false o (some (.int rv)) hz) false o 88 [(0, .ref (xa X 251)), (1, .int x1), (2, .int x2), (3, .int x3), (4, .int x4), (5, .int x5), (6, .int x6)] [] h) (hK103 : ∀ (x1 : Int32) (x2 : Int32) (x3 : Int32) (x4 : Int32) (x5 : Int32) (x6 : Int32) (x7 : Int32) (x8 : Int32) (h : Mm), K103 x1 x2 x3 x4 x5 x6 x7 x8 h = some (rv, hz) → V X G RX12 cX12_probe 9 (some .int) 93 0 0 (QR X G false o (some (.int rv)) hz) false o 103 [(0, .ref (xa X 251)), (1, .int x1), (2, .int x2), (3, .int x3), (4, .int x4), (5, .int x5), (6, .int x6), (7, .int x7), (8, .int x8)] [] h) {x1 : Int32} {x2 : Int32} {x3 : Int32} {x4 : Int32} {x5 : Int32} {x6 : Int32} {x8 : Int32} {s0 : Int32} {s1 : Int32} {h : Mm} (hF : X12_probe_145 n K88 K103 x1 x2 x3 x4 x5 x6 x8 s0 s1 h = some (rv, hz)) : V X G RX12 cX12_probe 9 (some .int) 93 0 0 (QR X G false o (some (.int rv)) hz) false o 145 [(0, .ref (xa X 251)), (1, .int x1), (2, .int x2), (3, .int x3), (4, .int x4), (5, .int x5), (6, .int x6), (8, .int x8)] [.int s1, .int s0] h := by
  unfold X12_probe_145 at hF
  refine V.iadd dX12_probe_145 ?_
  refine V.istore [(7, _), (0, _), (1, _), (2, _), (3, _), (4, _), (5, _), (6, _), (8, _)] dX12_probe_146 (by decide) rfl ?_
  exact V.sub [1, 2, 3, 4, 5, 6, 7, 0, 8] rfl (v_X12_probe_148 hK88 hK103 hF)
def X12_probe_185 (n : Nat) (K88 : Int32 → Int32 → Int32 → Int32 → Int32 → Int32 → Mm → Option (Int32 × Mm)) (x1 : Int32) (x2 : Int32) (x3 : Int32) (x4 : Int32) (x5 : Int32) (x6 : Int32) (h : Mm) : Option (Int32 × Mm) := (K88 x1 x2 x3 x4 x5 (x6 + (1)) h)
set_option maxRecDepth 100000 in
set_option maxHeartbeats 4000000 in
theorem v_X12_probe_185 {X : WX} {G : GX} {o : Mm} {n : Nat} {K88 : Int32 → Int32 → Int32 → Int32 → Int32 → Int32 → Mm → Option (Int32 × Mm)} {rv : Int32} {hz : Mm} (hK88 : ∀ (x1 : Int32) (x2 : Int32) (x3 : Int32) (x4 : Int32) (x5 : Int32) (x6 : Int32) (h : Mm), K88 x1 x2 x3 x4 x5 x6 h = some (rv, hz) → V X G RX12 cX12_probe 9 (some .int) 93 0 0 (QR X G false o (some (.int rv)) hz) false o 88 [(0, .ref (xa X 251)), (1, .int x1), (2, .int x2), (3, .int x3), (4, .int x4), (5, .int x5), (6, .int x6)] [] h) {x1 : Int32} {x2 : Int32} {x3 : Int32} {x4 : Int32} {x5 : Int32} {x6 : Int32} {h : Mm} (hF : X12_probe_185 n K88 x1 x2 x3 x4 x5 x6 h = some (rv, hz)) : V X G RX12 cX12_probe 9 (some .int) 93 0 0 (QR X G false o (some (.int rv)) hz) false o 185 [(0, .ref (xa X 251)), (1, .int x1), (2, .int x2), (3, .int x3), (4, .int x4), (5, .int x5), (6, .int x6)] [] h := by
  unfold X12_probe_185 at hF
  refine V.iinc (v := (x6 + (1))) 6 [(6, _), (0, _), (1, _), (2, _), (3, _), (4, _), (5, _)] dX12_probe_185 rfl rfl (by decide) rfl ?_
  refine V.goto (tgt := 88) dX12_probe_188 rfl ?_
  exact V.sub [1, 2, 3, 4, 5, 6, 0] rfl (hK88 _ _ _ _ _ _ _ hF)
def X12_probe_177 (n : Nat) (K88 : Int32 → Int32 → Int32 → Int32 → Int32 → Int32 → Mm → Option (Int32 × Mm)) (x1 : Int32) (x2 : Int32) (x3 : Int32) (x6 : Int32) (x7 : Int32) (h : Mm) : Option (Int32 × Mm) := (X12_probe_185 n K88 x1 x2 x3 x6 x7 x6 h)
set_option maxRecDepth 100000 in
set_option maxHeartbeats 4000000 in
theorem v_X12_probe_177 {X : WX} {G : GX} {o : Mm} {n : Nat} {K88 : Int32 → Int32 → Int32 → Int32 → Int32 → Int32 → Mm → Option (Int32 × Mm)} {rv : Int32} {hz : Mm} (hK88 : ∀ (x1 : Int32) (x2 : Int32) (x3 : Int32) (x4 : Int32) (x5 : Int32) (x6 : Int32) (h : Mm), K88 x1 x2 x3 x4 x5 x6 h = some (rv, hz) → V X G RX12 cX12_probe 9 (some .int) 93 0 0 (QR X G false o (some (.int rv)) hz) false o 88 [(0, .ref (xa X 251)), (1, .int x1), (2, .int x2), (3, .int x3), (4, .int x4), (5, .int x5), (6, .int x6)] [] h) {x1 : Int32} {x2 : Int32} {x3 : Int32} {x6 : Int32} {x7 : Int32} {h : Mm} (hF : X12_probe_177 n K88 x1 x2 x3 x6 x7 h = some (rv, hz)) : V X G RX12 cX12_probe 9 (some .int) 93 0 0 (QR X G false o (some (.int rv)) hz) false o 177 [(0, .ref (xa X 251)), (1, .int x1), (2, .int x2), (3, .int x3), (6, .int x6), (7, .int x7)] [] h := by
  unfold X12_probe_177 at hF
  refine V.iload 4 dX12_probe_177 rfl ?_
  refine V.istore [(4, _), (0, _), (1, _), (2, _), (3, _), (6, _), (7, _)] dX12_probe_179 (by decide) rfl ?_
  refine V.iload 6 dX12_probe_181 rfl ?_
  refine V.istore [(5, _), (4, _), (0, _), (1, _), (2, _), (3, _), (6, _), (7, _)] dX12_probe_183 (by decide) rfl ?_
  exact V.sub [2, 3, 4, 5, 1, 0, 6] rfl (v_X12_probe_185 hK88 hF)
def X12_probe_103 (n : Nat) (K88 : Int32 → Int32 → Int32 → Int32 → Int32 → Int32 → Mm → Option (Int32 × Mm)) : Nat → Int32 → Int32 → Int32 → Int32 → Int32 → Int32 → Int32 → Int32 → Mm → Option (Int32 × Mm)
  | 0, _, _, _, _, _, _, _, _, _ => none
  | f + 1, x1, x2, x3, x4, x5, x6, x7, x8, h => (if (10) ≤ x8 then (bp (J9_abs_0f7a4 x7 h) (fun r109 => (if x4 = (-1) then (X12_probe_177 n K88 x1 x2 x3 x6 r109 h) else (if r109 < x5 then (X12_probe_177 n K88 x1 x2 x3 x6 r109 h) else (X12_probe_185 n K88 x1 x2 x3 x4 x5 x6 h))))) else (bp (X12_has x3 x8 h) (fun r111 => (if r111 = true then (bp (X12_pagesOf x6 h) (fun r113 => (bd (X12_calmIf n x8 x6 r113 x1 h) (fun r115 h117 => (if r115 < x2 then (X12_probe_145 n K88 (X12_probe_103 n K88 f) x1 x2 x3 x4 x5 x6 x8 x7 (-1) h117) else (X12_probe_145 n K88 (X12_probe_103 n K88 f) x1 x2 x3 x4 x5 x6 x8 x7 (1) h117)))))) else (X12_probe_148 n K88 (X12_probe_103 n K88 f) x1 x2 x3 x4 x5 x6 x7 x8 h)))))
set_option maxRecDepth 100000 in
set_option maxHeartbeats 4000000 in
theorem v_X12_probe_103 {X : WX} {G : GX} {o : Mm} {n : Nat} {K88 : Int32 → Int32 → Int32 → Int32 → Int32 → Int32 → Mm → Option (Int32 × Mm)} {rv : Int32} {hz : Mm} (hK88 : ∀ (x1 : Int32) (x2 : Int32) (x3 : Int32) (x4 : Int32) (x5 : Int32) (x6 : Int32) (h : Mm), K88 x1 x2 x3 x4 x5 x6 h = some (rv, hz) → V X G RX12 cX12_probe 9 (some .int) 93 0 0 (QR X G false o (some (.int rv)) hz) false o 88 [(0, .ref (xa X 251)), (1, .int x1), (2, .int x2), (3, .int x3), (4, .int x4), (5, .int x5), (6, .int x6)] [] h) : ∀ (f : Nat) (x1 : Int32) (x2 : Int32) (x3 : Int32) (x4 : Int32) (x5 : Int32) (x6 : Int32) (x7 : Int32) (x8 : Int32) (h : Mm), X12_probe_103 n K88 f x1 x2 x3 x4 x5 x6 x7 x8 h = some (rv, hz) → V X G RX12 cX12_probe 9 (some .int) 93 0 0 (QR X G false o (some (.int rv)) hz) false o 103 [(0, .ref (xa X 251)), (1, .int x1), (2, .int x2), (3, .int x3), (4, .int x4), (5, .int x5), (6, .int x6), (7, .int x7), (8, .int x8)] [] h := by
  intro f
  induction f with
  | zero => intro x1 x2 x3 x4 x5 x6 x7 x8 h hF; exact nomatch (show (none : Option (Int32 × Mm)) = some (rv, hz) from hF)
  | succ f ih =>
    intro x1 x2 x3 x4 x5 x6 x7 x8 h hF
    unfold X12_probe_103 at hF
    refine V.iload 8 dX12_probe_103 rfl ?_
    refine V.bipush (v := 10) dX12_probe_105 (by decide) ?_
    refine V.icmp_ge (tgt := 154) dX12_probe_107 rfl (fun c => ?_) (fun c => ?_)
    · replace hF := (if_pos c).symm.trans hF
      refine V.iload 7 dX12_probe_154 rfl ?_
      obtain ⟨r109, hc110, hF⟩ := bp_s hF
      refine V.callSi mf_J9_abs_0f7a4 ml_X12_449 (s_J9_abs_0f7a4 hc110) (by decide) rfl rfl (Nat.le_of_ble_eq_true rfl) dX12_probe_156 ?_
      refine V.istore [(7, _), (0, _), (1, _), (2, _), (3, _), (4, _), (5, _), (6, _), (8, _)] dX12_probe_159 (by decide) rfl ?_
      refine V.iload 5 dX12_probe_161 rfl ?_
      refine V.iconst (v := -1) dX12_probe_163 rfl ?_
      refine V.icmp_eq (tgt := 177) dX12_probe_164 rfl (fun c => ?_) (fun c => ?_)
      · replace hF := (if_pos c).symm.trans hF
        exact V.sub [1, 2, 3, 4, 7, 0] rfl (v_X12_probe_177 hK88 hF)
      · replace hF := (if_neg c).symm.trans hF
        refine V.iload 0 dX12_probe_167 rfl ?_
        refine V.iload 6 dX12_probe_169 rfl ?_
        refine V.icmp_lt (tgt := 177) dX12_probe_171 rfl (fun c => ?_) (fun c => ?_)
        · replace hF := (if_pos c).symm.trans hF
          exact V.sub [1, 2, 3, 4, 7, 0] rfl (v_X12_probe_177 hK88 hF)
        · replace hF := (if_neg c).symm.trans hF
          refine V.goto (tgt := 185) dX12_probe_174 rfl ?_
          exact V.sub [1, 2, 3, 4, 5, 6, 7] rfl (v_X12_probe_185 hK88 hF)
    · replace hF := (if_neg c).symm.trans hF
      refine V.iload_n 3 dX12_probe_110 rfl rfl ?_
      refine V.iload 8 dX12_probe_111 rfl ?_
      obtain ⟨r111, hc112, hF⟩ := bp_s hF
      refine V.callSi mf_X12_has ml_X12_226 (s_X12_has hc112) (by decide) rfl rfl (Nat.le_of_ble_eq_true rfl) dX12_probe_113 ?_
      refine V.ifz_eq (tgt := 148) dX12_probe_116 rfl (fun c => ?_) (fun c => ?_)
      · replace hF := (if_neg c).symm.trans hF
        exact (v_X12_probe_148 hK88 ih hF)
      · replace hF := (if_pos c).symm.trans hF
        refine V.iload 7 dX12_probe_119 rfl ?_
        refine V.aload_n 0 dX12_probe_121 rfl rfl ?_
        refine V.iload 8 dX12_probe_122 rfl ?_
        refine V.iload 6 dX12_probe_124 rfl ?_
        refine V.aload_n 0 dX12_probe_126 rfl rfl ?_
        refine V.iload 6 dX12_probe_127 rfl ?_
        obtain ⟨r113, hc114, hF⟩ := bp_s hF
        refine V.callVi mf_X12_pagesOf ml_X12_322 sh_251 (s_X12_pagesOf hc114) (by decide) rfl rfl (Nat.le_of_ble_eq_true rfl) dX12_probe_129 ?_
        refine V.iload_n 1 dX12_probe_132 rfl rfl ?_
        obtain ⟨r115, h117, hc116, hF⟩ := bd_s hF
        refine V.callVi mf_X12_calmIf ml_X12_439 sh_251 (s_X12_calmIf hc116) (by decide) rfl rfl (Nat.le_of_ble_eq_true rfl) dX12_probe_133 ?_
        refine V.iload_n 2 dX12_probe_136 rfl rfl ?_
        refine V.icmp_lt (tgt := 144) dX12_probe_137 rfl (fun c => ?_) (fun c => ?_)
        · replace hF := (if_pos c).symm.trans hF
          refine V.iconst (v := -1) dX12_probe_144 rfl ?_
          exact V.sub [0, 1, 2, 3, 4, 5, 6, 8] rfl (v_X12_probe_145 hK88 ih hF)
        · replace hF := (if_neg c).symm.trans hF
          refine V.iconst (v := 1) dX12_probe_140 rfl ?_
          refine V.goto (tgt := 145) dX12_probe_141 rfl ?_
          exact V.sub [0, 1, 2, 3, 4, 5, 6, 8] rfl (v_X12_probe_145 hK88 ih hF)
def X12_probe_88 (n : Nat) : Nat → Int32 → Int32 → Int32 → Int32 → Int32 → Int32 → Mm → Option (Int32 × Mm)
  | 0, _, _, _, _, _, _, _ => none
  | f + 1, x1, x2, x3, x4, x5, x6, h => (if (h.1 251 26) ≤ x6 then (some (x4, h)) else (X12_probe_103 n (X12_probe_88 n f) n x1 x2 x3 x4 x5 x6 (0) (0) h))
set_option maxRecDepth 100000 in
set_option maxHeartbeats 4000000 in
theorem v_X12_probe_88 {X : WX} {G : GX} {o : Mm} {n : Nat} {rv : Int32} {hz : Mm} : ∀ (f : Nat) (x1 : Int32) (x2 : Int32) (x3 : Int32) (x4 : Int32) (x5 : Int32) (x6 : Int32) (h : Mm), X12_probe_88 n f x1 x2 x3 x4 x5 x6 h = some (rv, hz) → V X G RX12 cX12_probe 9 (some .int) 93 0 0 (QR X G false o (some (.int rv)) hz) false o 88 [(0, .ref (xa X 251)), (1, .int x1), (2, .int x2), (3, .int x3), (4, .int x4), (5, .int x5), (6, .int x6)] [] h := by
  intro f
  induction f with
  | zero => intro x1 x2 x3 x4 x5 x6 h hF; exact nomatch (show (none : Option (Int32 × Mm)) = some (rv, hz) from hF)
  | succ f ih =>
    intro x1 x2 x3 x4 x5 x6 h hF
    unfold X12_probe_88 at hF
    refine V.iload 6 dX12_probe_88 rfl ?_
    refine V.aload_n 0 dX12_probe_90 rfl rfl ?_
    refine V.getI fl_X12_288 sh_251 rfl km_251 dX12_probe_91 ?_
    refine V.icmp_ge (tgt := 191) dX12_probe_94 rfl (fun c => ?_) (fun c => ?_)
    · replace hF := (if_pos c).symm.trans hF
      refine V.iload 4 dX12_probe_191 rfl ?_
      cases hF
      exact V.iret dX12_probe_193
    · replace hF := (if_neg c).symm.trans hF
      refine V.iconst (v := 0) dX12_probe_97 rfl ?_
      refine V.istore [(7, _), (0, _), (1, _), (2, _), (3, _), (4, _), (5, _), (6, _)] dX12_probe_98 (by decide) rfl ?_
      refine V.iconst (v := 0) dX12_probe_100 rfl ?_
      refine V.istore [(8, _), (7, _), (0, _), (1, _), (2, _), (3, _), (4, _), (5, _), (6, _)] dX12_probe_101 (by decide) rfl ?_
      exact V.sub [2, 3, 4, 5, 6, 7, 8, 1, 0] rfl (v_X12_probe_103 ih n _ _ _ _ _ _ _ _ _ hF)
def X12_probe_32 (n : Nat) : Nat → Int32 → Int32 → Int32 → Int32 → Mm → Option (Int32 × Mm)
  | 0, _, _, _, _, _ => none
  | f + 1, x1, x2, x3, x4, h => (if (10) ≤ x4 then (if x3 = 0 then (some ((-1), h)) else (X12_probe_88 n n x1 x2 x3 (-1) (0) (0) h)) else (bp (X12_isCode x4 h) (fun r118 => (if r118 = true then (bd (X12_isLiked n x4 h) (fun r120 h122 => (if r120 = true then (X12_probe_65 n (X12_probe_32 n f) x1 x2 x4 x3 ((1) <<< (x4 &&& 31)) h122) else (X12_probe_64 n (X12_probe_32 n f) x1 x2 x4 x3 h122)))) else (X12_probe_64 n (X12_probe_32 n f) x1 x2 x4 x3 h)))))
set_option maxRecDepth 100000 in
set_option maxHeartbeats 4000000 in
theorem v_X12_probe_32 {X : WX} {G : GX} {o : Mm} {n : Nat} {rv : Int32} {hz : Mm} : ∀ (f : Nat) (x1 : Int32) (x2 : Int32) (x3 : Int32) (x4 : Int32) (h : Mm), X12_probe_32 n f x1 x2 x3 x4 h = some (rv, hz) → V X G RX12 cX12_probe 9 (some .int) 93 0 0 (QR X G false o (some (.int rv)) hz) false o 32 [(0, .ref (xa X 251)), (1, .int x1), (2, .int x2), (3, .int x3), (4, .int x4)] [] h := by
  intro f
  induction f with
  | zero => intro x1 x2 x3 x4 h hF; exact nomatch (show (none : Option (Int32 × Mm)) = some (rv, hz) from hF)
  | succ f ih =>
    intro x1 x2 x3 x4 h hF
    unfold X12_probe_32 at hF
    refine V.iload 4 dX12_probe_32 rfl ?_
    refine V.bipush (v := 10) dX12_probe_34 (by decide) ?_
    refine V.icmp_ge (tgt := 73) dX12_probe_36 rfl (fun c => ?_) (fun c => ?_)
    · replace hF := (if_pos c).symm.trans hF
      refine V.iload_n 3 dX12_probe_73 rfl rfl ?_
      refine V.if_ne (tgt := 79) dX12_probe_74 rfl (fun c => ?_) (fun c => ?_)
      · replace hF := (if_neg c).symm.trans hF
        refine V.iconst (v := -1) dX12_probe_79 rfl ?_
        refine V.istore [(4, _), (0, _), (1, _), (2, _), (3, _)] dX12_probe_80 (by decide) rfl ?_
        refine V.iconst (v := 0) dX12_probe_82 rfl ?_
        refine V.istore [(5, _), (4, _), (0, _), (1, _), (2, _), (3, _)] dX12_probe_83 (by decide) rfl ?_
        refine V.iconst (v := 0) dX12_probe_85 rfl ?_
        refine V.istore [(6, _), (5, _), (4, _), (0, _), (1, _), (2, _), (3, _)] dX12_probe_86 (by decide) rfl ?_
        exact V.sub [3, 4, 5, 6, 2, 1, 0] rfl (v_X12_probe_88 n _ _ _ _ _ _ _ hF)
      · replace hF := (if_pos c).symm.trans hF
        refine V.iconst (v := -1) dX12_probe_77 rfl ?_
        cases hF
        exact V.iret dX12_probe_78
    · replace hF := (if_neg c).symm.trans hF
      refine V.iload_n 3 dX12_probe_39 rfl rfl ?_
      refine V.iload 4 dX12_probe_40 rfl ?_
      obtain ⟨r118, hc119, hF⟩ := bp_s hF
      refine V.callSi mf_X12_isCode ml_X12_443 (s_X12_isCode hc119) (by decide) rfl rfl (Nat.le_of_ble_eq_true rfl) dX12_probe_42 ?_
      refine V.ifz_eq (tgt := 64) dX12_probe_45 rfl (fun c => ?_) (fun c => ?_)
      · replace hF := (if_neg c).symm.trans hF
        exact V.sub [0, 1, 2, 4] rfl (v_X12_probe_64 ih hF)
      · replace hF := (if_pos c).symm.trans hF
        refine V.aload_n 0 dX12_probe_48 rfl rfl ?_
        refine V.iload 4 dX12_probe_49 rfl ?_
        obtain ⟨r120, h122, hc121, hF⟩ := bd_s hF
        refine V.callVi mf_X12_isLiked ml_X12_446 sh_251 (s_X12_isLiked hc121) (by decide) rfl rfl (Nat.le_of_ble_eq_true rfl) dX12_probe_51 ?_
        refine V.ifz_eq (tgt := 64) dX12_probe_54 rfl (fun c => ?_) (fun c => ?_)
        · replace hF := (if_neg c).symm.trans hF
          exact V.sub [0, 1, 2, 4] rfl (v_X12_probe_64 ih hF)
        · replace hF := (if_pos c).symm.trans hF
          refine V.iconst (v := 1) dX12_probe_57 rfl ?_
          refine V.iload 4 dX12_probe_58 rfl ?_
          refine V.ishl dX12_probe_60 ?_
          refine V.goto (tgt := 65) dX12_probe_61 rfl ?_
          exact V.sub [0, 1, 2, 4] rfl (v_X12_probe_65 ih hF)
def X12_probe (n : Nat) (x1 : Int32) (x2 : Int32) (h : Mm) : Option (Int32 × Mm) := (bp (X12_isHouse x1 (wI h 251 0 (0))) (fun r123 => (if r123 = true then (bp (X12_isIn x2.toInt64 (0 : Int64) (99 : Int64) (wI h 251 0 (0))) (fun r125 => (if r125 = true then (X12_probe_32 n n x1 x2 (0) (0) (wI h 251 0 (0))) else (some ((-1), (wI h 251 0 (0))))))) else (some ((-1), (wI h 251 0 (0)))))))
set_option maxRecDepth 100000 in
set_option maxHeartbeats 4000000 in
theorem s_X12_probe {X : WX} {o : Mm} {n : Nat} {x1 : Int32} {x2 : Int32} {rv : Int32} {hz : Mm} {h : Mm} (hF : X12_probe n x1 x2 h = some (rv, hz)) : Sat X yX12_probe cX12_probe 9 (some .int) 93 [.ref (xa X 251), .int x1, .int x2] false o h (some (.int rv)) hz := by
  unfold X12_probe at hF
  refine Sat.mk (own := RX12) rfl (by decide +kernel) (Nat.le_of_ble_eq_true rfl) (fun G => ?_)
  refine V.sub (lv2 := [(0, _), (1, _), (2, _)]) [0, 1, 2] rfl ?_
  refine V.aload_n 0 dX12_probe_0 rfl rfl ?_
  refine V.iconst (v := 0) dX12_probe_1 rfl ?_
  refine V.putI fl_X12_93 rfl (tyX12_ok 0 (by decide)) rfl rfl sh_251 rfl km_251 dX12_probe_2 ?_
  refine V.aload_n 0 dX12_probe_5 rfl rfl ?_
  refine V.iload_n 1 dX12_probe_6 rfl rfl ?_
  obtain ⟨r123, hc124, hF⟩ := bp_s hF
  refine V.callVi mf_X12_isHouse ml_X12_337 sh_251 (s_X12_isHouse hc124) (by decide) rfl rfl (Nat.le_of_ble_eq_true rfl) dX12_probe_7 ?_
  refine V.ifz_eq (tgt := 25) dX12_probe_10 rfl (fun c => ?_) (fun c => ?_)
  · replace hF := (if_neg c).symm.trans hF
    refine V.iconst (v := -1) dX12_probe_25 rfl ?_
    cases hF
    exact V.iret dX12_probe_26
  · replace hF := (if_pos c).symm.trans hF
    refine V.iload_n 2 dX12_probe_13 rfl rfl ?_
    refine V.i2l dX12_probe_14 ?_
    refine V.lconst (v := 0) dX12_probe_15 rfl ?_
    refine V.ldc2 (v := 99) dX12_probe_16 kc_X12_437 ?_
    obtain ⟨r125, hc126, hF⟩ := bp_s hF
    refine V.callSi mf_X12_isIn ml_X12_214 (s_X12_isIn hc126) (by decide) rfl rfl (Nat.le_of_ble_eq_true rfl) dX12_probe_19 ?_
    refine V.ifz_ne (tgt := 27) dX12_probe_22 rfl (fun c => ?_) (fun c => ?_)
    · replace hF := (if_pos c).symm.trans hF
      refine V.iconst (v := 0) dX12_probe_27 rfl ?_
      refine V.istore_n [(3, _), (0, _), (1, _), (2, _)] dX12_probe_28 rfl (by decide) rfl ?_
      refine V.iconst (v := 0) dX12_probe_29 rfl ?_
      refine V.istore [(4, _), (3, _), (0, _), (1, _), (2, _)] dX12_probe_30 (by decide) rfl ?_
      exact V.sub [2, 3, 4, 1, 0] rfl (v_X12_probe_32 n _ _ _ _ _ hF)
    · replace hF := (if_neg c).symm.trans hF
      refine V.iconst (v := -1) dX12_probe_25 rfl ?_
      cases hF
      exact V.iret dX12_probe_26
/-! MonsterCotModel.isReadTo -/
theorem dX12_isReadTo_0 : decode cX12_isReadTo 0 = .ok (.aload_n 0, 1) := by decide +kernel
theorem dX12_isReadTo_1 : decode cX12_isReadTo 1 = .ok (.getfield 61, 3) := by decide +kernel
theorem dX12_isReadTo_4 : decode cX12_isReadTo 4 = .ok (.aload_n 0, 1) := by decide +kernel
theorem dX12_isReadTo_5 : decode cX12_isReadTo 5 = .ok (.getfield 64, 3) := by decide +kernel
theorem dX12_isReadTo_8 : decode cX12_isReadTo 8 = .ok (.invokestatic 401, 3) := by decide +kernel
theorem dX12_isReadTo_11 : decode cX12_isReadTo 11 = .ok (.iconst 0, 1) := by decide +kernel
theorem dX12_isReadTo_12 : decode cX12_isReadTo 12 = .ok (.istore_n 3, 1) := by decide +kernel
theorem dX12_isReadTo_13 : decode cX12_isReadTo 13 = .ok (.iload_n 3, 1) := by decide +kernel
theorem dX12_isReadTo_14 : decode cX12_isReadTo 14 = .ok (.aload_n 0, 1) := by decide +kernel
theorem dX12_isReadTo_15 : decode cX12_isReadTo 15 = .ok (.getfield 288, 3) := by decide +kernel
theorem dX12_isReadTo_18 : decode cX12_isReadTo 18 = .ok (.if_icmp .ge 55, 3) := by decide +kernel
theorem dX12_isReadTo_21 : decode cX12_isReadTo 21 = .ok (.iload_n 1, 1) := by decide +kernel
theorem dX12_isReadTo_22 : decode cX12_isReadTo 22 = .ok (.iload_n 3, 1) := by decide +kernel
theorem dX12_isReadTo_23 : decode cX12_isReadTo 23 = .ok (.invokestatic 226, 3) := by decide +kernel
theorem dX12_isReadTo_26 : decode cX12_isReadTo 26 = .ok (.ifCond .ne 6, 3) := by decide +kernel
theorem dX12_isReadTo_29 : decode cX12_isReadTo 29 = .ok (.goto 38, 3) := by decide +kernel
theorem dX12_isReadTo_32 : decode cX12_isReadTo 32 = .ok (.aload_n 0, 1) := by decide +kernel
theorem dX12_isReadTo_33 : decode cX12_isReadTo 33 = .ok (.aload_n 0, 1) := by decide +kernel
theorem dX12_isReadTo_34 : decode cX12_isReadTo 34 = .ok (.getfield 64, 3) := by decide +kernel
theorem dX12_isReadTo_37 : decode cX12_isReadTo 37 = .ok (.iload_n 3, 1) := by decide +kernel
theorem dX12_isReadTo_38 : decode cX12_isReadTo 38 = .ok (.aload_n 0, 1) := by decide +kernel
theorem dX12_isReadTo_39 : decode cX12_isReadTo 39 = .ok (.iload_n 3, 1) := by decide +kernel
theorem dX12_isReadTo_40 : decode cX12_isReadTo 40 = .ok (.invokevirtual 322, 3) := by decide +kernel
theorem dX12_isReadTo_43 : decode cX12_isReadTo 43 = .ok (.iconst 0, 1) := by decide +kernel
theorem dX12_isReadTo_44 : decode cX12_isReadTo 44 = .ok (.invokevirtual 359, 3) := by decide +kernel
theorem dX12_isReadTo_47 : decode cX12_isReadTo 47 = .ok (.ifCond .ne 5, 3) := by decide +kernel
theorem dX12_isReadTo_50 : decode cX12_isReadTo 50 = .ok (.iconst 0, 1) := by decide +kernel
theorem dX12_isReadTo_51 : decode cX12_isReadTo 51 = .ok (.ireturn, 1) := by decide +kernel
theorem dX12_isReadTo_52 : decode cX12_isReadTo 52 = .ok (.aload_n 0, 1) := by decide +kernel
theorem dX12_isReadTo_53 : decode cX12_isReadTo 53 = .ok (.aload_n 0, 1) := by decide +kernel
theorem dX12_isReadTo_54 : decode cX12_isReadTo 54 = .ok (.getfield 64, 3) := by decide +kernel
theorem dX12_isReadTo_57 : decode cX12_isReadTo 57 = .ok (.iload_n 3, 1) := by decide +kernel
theorem dX12_isReadTo_58 : decode cX12_isReadTo 58 = .ok (.aload_n 0, 1) := by decide +kernel
theorem dX12_isReadTo_59 : decode cX12_isReadTo 59 = .ok (.iload_n 3, 1) := by decide +kernel
theorem dX12_isReadTo_60 : decode cX12_isReadTo 60 = .ok (.invokevirtual 322, 3) := by decide +kernel
theorem dX12_isReadTo_63 : decode cX12_isReadTo 63 = .ok (.iconst 0, 1) := by decide +kernel
theorem dX12_isReadTo_64 : decode cX12_isReadTo 64 = .ok (.invokevirtual 365, 3) := by decide +kernel
theorem dX12_isReadTo_67 : decode cX12_isReadTo 67 = .ok (.iinc 3 1, 3) := by decide +kernel
theorem dX12_isReadTo_70 : decode cX12_isReadTo 70 = .ok (.goto (-57), 3) := by decide +kernel
theorem dX12_isReadTo_73 : decode cX12_isReadTo 73 = .ok (.aload_n 0, 1) := by decide +kernel
theorem dX12_isReadTo_74 : decode cX12_isReadTo 74 = .ok (.getfield 64, 3) := by decide +kernel
theorem dX12_isReadTo_77 : decode cX12_isReadTo 77 = .ok (.bipush 22, 2) := by decide +kernel
theorem dX12_isReadTo_79 : decode cX12_isReadTo 79 = .ok (.iaload, 1) := by decide +kernel
theorem dX12_isReadTo_80 : decode cX12_isReadTo 80 = .ok (.iload_n 2, 1) := by decide +kernel
theorem dX12_isReadTo_81 : decode cX12_isReadTo 81 = .ok (.if_icmp .ne 7, 3) := by decide +kernel
theorem dX12_isReadTo_84 : decode cX12_isReadTo 84 = .ok (.iconst 1, 1) := by decide +kernel
theorem dX12_isReadTo_85 : decode cX12_isReadTo 85 = .ok (.goto 4, 3) := by decide +kernel
theorem dX12_isReadTo_88 : decode cX12_isReadTo 88 = .ok (.iconst 0, 1) := by decide +kernel
theorem dX12_isReadTo_89 : decode cX12_isReadTo 89 = .ok (.ireturn, 1) := by decide +kernel
def X12_isReadTo_67 (n : Nat) (K13 : Int32 → Int32 → Int32 → Mm → Option (Bool × Mm)) (x1 : Int32) (x2 : Int32) (x3 : Int32) (h : Mm) : Option (Bool × Mm) := (K13 x1 x2 (x3 + (1)) h)
set_option maxRecDepth 100000 in
set_option maxHeartbeats 4000000 in
theorem v_X12_isReadTo_67 {X : WX} {G : GX} {o : Mm} {n : Nat} {K13 : Int32 → Int32 → Int32 → Mm → Option (Bool × Mm)} {rv : Bool} {hz : Mm} (hK13 : ∀ (x1 : Int32) (x2 : Int32) (x3 : Int32) (h : Mm), K13 x1 x2 x3 h = some (rv, hz) → V X G RX12 cX12_isReadTo 4 (some .boolean) 92 0 0 (QR X G false o (some (.int (b2i rv))) hz) false o 13 [(0, .ref (xa X 251)), (1, .int x1), (2, .int x2), (3, .int x3)] [] h) {x1 : Int32} {x2 : Int32} {x3 : Int32} {h : Mm} (hF : X12_isReadTo_67 n K13 x1 x2 x3 h = some (rv, hz)) : V X G RX12 cX12_isReadTo 4 (some .boolean) 92 0 0 (QR X G false o (some (.int (b2i rv))) hz) false o 67 [(0, .ref (xa X 251)), (1, .int x1), (2, .int x2), (3, .int x3)] [] h := by
  unfold X12_isReadTo_67 at hF
  refine V.iinc (v := (x3 + (1))) 3 [(3, _), (0, _), (1, _), (2, _)] dX12_isReadTo_67 rfl rfl (by decide) rfl ?_
  refine V.goto (tgt := 13) dX12_isReadTo_70 rfl ?_
  exact V.sub [1, 2, 3, 0] rfl (hK13 _ _ _ _ hF)
def X12_isReadTo_13 (n : Nat) : Nat → Int32 → Int32 → Int32 → Mm → Option (Bool × Mm)
  | 0, _, _, _, _ => none
  | f + 1, x1, x2, x3, h => (if (h.1 251 26) ≤ x3 then (if inB (22) (aln 265) then (if (h.1 265 (22).toNatClampNeg) = x2 then (some (true, h)) else (some (false, h))) else none) else (bp (X12_has x1 x3 h) (fun r57 => (if r57 = true then (bp (X12_pagesOf x3 h) (fun r59 => (bp (X12_mayRead 265 x3 r59 false h) (fun r61 => (if r61 = true then (bp (X12_pagesOf x3 h) (fun r63 => (bd (X12_reads n 265 x3 r63 false h) (fun _ h67 => (X12_isReadTo_67 n (X12_isReadTo_13 n f) x1 x2 x3 h67))))) else (some (false, h))))))) else (X12_isReadTo_67 n (X12_isReadTo_13 n f) x1 x2 x3 h)))))
set_option maxRecDepth 100000 in
set_option maxHeartbeats 4000000 in
theorem v_X12_isReadTo_13 {X : WX} {G : GX} {o : Mm} {n : Nat} {rv : Bool} {hz : Mm} : ∀ (f : Nat) (x1 : Int32) (x2 : Int32) (x3 : Int32) (h : Mm), X12_isReadTo_13 n f x1 x2 x3 h = some (rv, hz) → V X G RX12 cX12_isReadTo 4 (some .boolean) 92 0 0 (QR X G false o (some (.int (b2i rv))) hz) false o 13 [(0, .ref (xa X 251)), (1, .int x1), (2, .int x2), (3, .int x3)] [] h := by
  intro f
  induction f with
  | zero => intro x1 x2 x3 h hF; exact nomatch (show (none : Option (Bool × Mm)) = some (rv, hz) from hF)
  | succ f ih =>
    intro x1 x2 x3 h hF
    unfold X12_isReadTo_13 at hF
    refine V.iload_n 3 dX12_isReadTo_13 rfl rfl ?_
    refine V.aload_n 0 dX12_isReadTo_14 rfl rfl ?_
    refine V.getI fl_X12_288 sh_251 rfl km_251 dX12_isReadTo_15 ?_
    refine V.icmp_ge (tgt := 73) dX12_isReadTo_18 rfl (fun c => ?_) (fun c => ?_)
    · replace hF := (if_pos c).symm.trans hF
      refine V.aload_n 0 dX12_isReadTo_73 rfl rfl ?_
      refine V.getR (v := 265) fl_X12_64 sh_251 rfl fx_251_33 (by decide) dX12_isReadTo_74 ?_
      refine V.bipush (v := 22) dX12_isReadTo_77 (by decide) ?_
      obtain ⟨hk, hF⟩ := ck hF
      refine V.iald io_265 hk dX12_isReadTo_79 ?_
      refine V.iload_n 2 dX12_isReadTo_80 rfl rfl ?_
      refine V.icmp_ne (tgt := 88) dX12_isReadTo_81 rfl (fun c => ?_) (fun c => ?_)
      · replace hF := (if_neg c).symm.trans hF
        refine V.iconst (v := 0) dX12_isReadTo_88 rfl ?_
        cases hF
        exact V.bret dX12_isReadTo_89
      · replace hF := (if_pos c).symm.trans hF
        refine V.iconst (v := 1) dX12_isReadTo_84 rfl ?_
        refine V.goto (tgt := 89) dX12_isReadTo_85 rfl ?_
        cases hF
        exact V.bret dX12_isReadTo_89
    · replace hF := (if_neg c).symm.trans hF
      refine V.iload_n 1 dX12_isReadTo_21 rfl rfl ?_
      refine V.iload_n 3 dX12_isReadTo_22 rfl rfl ?_
      obtain ⟨r57, hc58, hF⟩ := bp_s hF
      refine V.callSi mf_X12_has ml_X12_226 (s_X12_has hc58) (by decide) rfl rfl (Nat.le_of_ble_eq_true rfl) dX12_isReadTo_23 ?_
      refine V.ifz_ne (tgt := 32) dX12_isReadTo_26 rfl (fun c => ?_) (fun c => ?_)
      · replace hF := (if_pos c).symm.trans hF
        refine V.aload_n 0 dX12_isReadTo_32 rfl rfl ?_
        refine V.aload_n 0 dX12_isReadTo_33 rfl rfl ?_
        refine V.getR (v := 265) fl_X12_64 sh_251 rfl fx_251_33 (by decide) dX12_isReadTo_34 ?_
        refine V.iload_n 3 dX12_isReadTo_37 rfl rfl ?_
        refine V.aload_n 0 dX12_isReadTo_38 rfl rfl ?_
        refine V.iload_n 3 dX12_isReadTo_39 rfl rfl ?_
        obtain ⟨r59, hc60, hF⟩ := bp_s hF
        refine V.callVi mf_X12_pagesOf ml_X12_322 sh_251 (s_X12_pagesOf hc60) (by decide) rfl rfl (Nat.le_of_ble_eq_true rfl) dX12_isReadTo_40 ?_
        refine V.iconst (v := 0) dX12_isReadTo_43 rfl ?_
        obtain ⟨r61, hc62, hF⟩ := bp_s hF
        refine V.callVi mf_X12_mayRead ml_X12_359 sh_251 (s_X12_mayRead io_265 hc62) (by decide) rfl rfl (Nat.le_of_ble_eq_true rfl) dX12_isReadTo_44 ?_
        refine V.ifz_ne (tgt := 52) dX12_isReadTo_47 rfl (fun c => ?_) (fun c => ?_)
        · replace hF := (if_pos c).symm.trans hF
          refine V.aload_n 0 dX12_isReadTo_52 rfl rfl ?_
          refine V.aload_n 0 dX12_isReadTo_53 rfl rfl ?_
          refine V.getR (v := 265) fl_X12_64 sh_251 rfl fx_251_33 (by decide) dX12_isReadTo_54 ?_
          refine V.iload_n 3 dX12_isReadTo_57 rfl rfl ?_
          refine V.aload_n 0 dX12_isReadTo_58 rfl rfl ?_
          refine V.iload_n 3 dX12_isReadTo_59 rfl rfl ?_
          obtain ⟨r63, hc64, hF⟩ := bp_s hF
          refine V.callVi mf_X12_pagesOf ml_X12_322 sh_251 (s_X12_pagesOf hc64) (by decide) rfl rfl (Nat.le_of_ble_eq_true rfl) dX12_isReadTo_60 ?_
          refine V.iconst (v := 0) dX12_isReadTo_63 rfl ?_
          obtain ⟨r65, h67, hc66, hF⟩ := bd_s hF
          refine V.callVv mf_X12_reads ml_X12_365 sh_251 (s_X12_reads io_265 hc66) (by decide) rfl rfl (Nat.le_of_ble_eq_true rfl) dX12_isReadTo_64 ?_
          exact (v_X12_isReadTo_67 ih hF)
        · replace hF := (if_neg c).symm.trans hF
          refine V.iconst (v := 0) dX12_isReadTo_50 rfl ?_
          cases hF
          exact V.bret dX12_isReadTo_51
      · replace hF := (if_neg c).symm.trans hF
        refine V.goto (tgt := 67) dX12_isReadTo_29 rfl ?_
        exact (v_X12_isReadTo_67 ih hF)
def X12_isReadTo (n : Nat) (x1 : Int32) (x2 : Int32) (h : Mm) : Option (Bool × Mm) := (bd (X12_copy n 264 265 h) (fun _ h70 => (X12_isReadTo_13 n n x1 x2 (0) h70)))
set_option maxRecDepth 100000 in
set_option maxHeartbeats 4000000 in
theorem s_X12_isReadTo {X : WX} {o : Mm} {n : Nat} {x1 : Int32} {x2 : Int32} {rv : Bool} {hz : Mm} {h : Mm} (hF : X12_isReadTo n x1 x2 h = some (rv, hz)) : Sat X yX12_isReadTo cX12_isReadTo 4 (some .boolean) 92 [.ref (xa X 251), .int x1, .int x2] false o h (some (.int (b2i rv))) hz := by
  unfold X12_isReadTo at hF
  refine Sat.mk (own := RX12) rfl (by decide +kernel) (Nat.le_of_ble_eq_true rfl) (fun G => ?_)
  refine V.sub (lv2 := [(0, _), (1, _), (2, _)]) [0, 1, 2] rfl ?_
  refine V.aload_n 0 dX12_isReadTo_0 rfl rfl ?_
  refine V.getR (v := 264) fl_X12_61 sh_251 rfl fx_251_32 (by decide) dX12_isReadTo_1 ?_
  refine V.aload_n 0 dX12_isReadTo_4 rfl rfl ?_
  refine V.getR (v := 265) fl_X12_64 sh_251 rfl fx_251_33 (by decide) dX12_isReadTo_5 ?_
  obtain ⟨r68, h70, hc69, hF⟩ := bd_s hF
  refine V.callSv mf_X12_copy ml_X12_401 (s_X12_copy io_264 io_265 hc69) (by decide) rfl rfl (Nat.le_of_ble_eq_true rfl) dX12_isReadTo_8 ?_
  refine V.iconst (v := 0) dX12_isReadTo_11 rfl ?_
  refine V.istore_n [(3, _), (0, _), (1, _), (2, _)] dX12_isReadTo_12 rfl (by decide) rfl ?_
  exact V.sub [1, 2, 3, 0] rfl (v_X12_isReadTo_13 n _ _ _ _ hF)
/-! MonsterCotModel.which -/
theorem dX12_which_0 : decode cX12_which 0 = .ok (.aload_n 0, 1) := by decide +kernel
theorem dX12_which_1 : decode cX12_which 1 = .ok (.iconst 0, 1) := by decide +kernel
theorem dX12_which_2 : decode cX12_which 2 = .ok (.putfield 93, 3) := by decide +kernel
theorem dX12_which_5 : decode cX12_which 5 = .ok (.aload_n 0, 1) := by decide +kernel
theorem dX12_which_6 : decode cX12_which 6 = .ok (.getfield 291, 3) := by decide +kernel
theorem dX12_which_9 : decode cX12_which 9 = .ok (.ifCond .eq 20, 3) := by decide +kernel
theorem dX12_which_12 : decode cX12_which 12 = .ok (.iload_n 1, 1) := by decide +kernel
theorem dX12_which_13 : decode cX12_which 13 = .ok (.i2l, 1) := by decide +kernel
theorem dX12_which_14 : decode cX12_which 14 = .ok (.lconst 0, 1) := by decide +kernel
theorem dX12_which_15 : decode cX12_which 15 = .ok (.ldc2_w 437, 3) := by decide +kernel
theorem dX12_which_18 : decode cX12_which 18 = .ok (.invokestatic 214, 3) := by decide +kernel
theorem dX12_which_21 : decode cX12_which 21 = .ok (.ifCond .eq 8, 3) := by decide +kernel
theorem dX12_which_24 : decode cX12_which 24 = .ok (.iload_n 2, 1) := by decide +kernel
theorem dX12_which_25 : decode cX12_which 25 = .ok (.iconst (-1), 1) := by decide +kernel
theorem dX12_which_26 : decode cX12_which 26 = .ok (.if_icmp .ge 5, 3) := by decide +kernel
theorem dX12_which_29 : decode cX12_which 29 = .ok (.iconst (-1), 1) := by decide +kernel
theorem dX12_which_30 : decode cX12_which 30 = .ok (.ireturn, 1) := by decide +kernel
theorem dX12_which_31 : decode cX12_which 31 = .ok (.iconst 0, 1) := by decide +kernel
theorem dX12_which_32 : decode cX12_which 32 = .ok (.istore_n 3, 1) := by decide +kernel
theorem dX12_which_33 : decode cX12_which 33 = .ok (.iconst 0, 1) := by decide +kernel
theorem dX12_which_34 : decode cX12_which 34 = .ok (.istore 4, 2) := by decide +kernel
theorem dX12_which_36 : decode cX12_which 36 = .ok (.iload 4, 2) := by decide +kernel
theorem dX12_which_38 : decode cX12_which 38 = .ok (.iconst 1, 1) := by decide +kernel
theorem dX12_which_39 : decode cX12_which 39 = .ok (.aload_n 0, 1) := by decide +kernel
theorem dX12_which_40 : decode cX12_which 40 = .ok (.getfield 288, 3) := by decide +kernel
theorem dX12_which_43 : decode cX12_which 43 = .ok (.ishl, 1) := by decide +kernel
theorem dX12_which_44 : decode cX12_which 44 = .ok (.if_icmp .ge 33, 3) := by decide +kernel
theorem dX12_which_47 : decode cX12_which 47 = .ok (.aload_n 0, 1) := by decide +kernel
theorem dX12_which_48 : decode cX12_which 48 = .ok (.iload 4, 2) := by decide +kernel
theorem dX12_which_50 : decode cX12_which 50 = .ok (.iload_n 1, 1) := by decide +kernel
theorem dX12_which_51 : decode cX12_which 51 = .ok (.invokevirtual 452, 3) := by decide +kernel
theorem dX12_which_54 : decode cX12_which 54 = .ok (.ifCond .ne 6, 3) := by decide +kernel
theorem dX12_which_57 : decode cX12_which 57 = .ok (.goto 14, 3) := by decide +kernel
theorem dX12_which_60 : decode cX12_which 60 = .ok (.iload_n 3, 1) := by decide +kernel
theorem dX12_which_61 : decode cX12_which 61 = .ok (.iload_n 2, 1) := by decide +kernel
theorem dX12_which_62 : decode cX12_which 62 = .ok (.if_icmp .ne 6, 3) := by decide +kernel
theorem dX12_which_65 : decode cX12_which 65 = .ok (.iload 4, 2) := by decide +kernel
theorem dX12_which_67 : decode cX12_which 67 = .ok (.ireturn, 1) := by decide +kernel
theorem dX12_which_68 : decode cX12_which 68 = .ok (.iinc 3 1, 3) := by decide +kernel
theorem dX12_which_71 : decode cX12_which 71 = .ok (.iinc 4 1, 3) := by decide +kernel
theorem dX12_which_74 : decode cX12_which 74 = .ok (.goto (-38), 3) := by decide +kernel
theorem dX12_which_77 : decode cX12_which 77 = .ok (.iload_n 2, 1) := by decide +kernel
theorem dX12_which_78 : decode cX12_which 78 = .ok (.iconst (-1), 1) := by decide +kernel
theorem dX12_which_79 : decode cX12_which 79 = .ok (.if_icmp .ne 7, 3) := by decide +kernel
theorem dX12_which_82 : decode cX12_which 82 = .ok (.iload_n 3, 1) := by decide +kernel
theorem dX12_which_83 : decode cX12_which 83 = .ok (.goto 4, 3) := by decide +kernel
theorem dX12_which_86 : decode cX12_which 86 = .ok (.iconst (-1), 1) := by decide +kernel
theorem dX12_which_87 : decode cX12_which 87 = .ok (.ireturn, 1) := by decide +kernel
def X12_which_71 (n : Nat) (K36 : Int32 → Int32 → Int32 → Int32 → Mm → Option (Int32 × Mm)) (x1 : Int32) (x2 : Int32) (x3 : Int32) (x4 : Int32) (h : Mm) : Option (Int32 × Mm) := (K36 x1 x2 x3 (x4 + (1)) h)
set_option maxRecDepth 100000 in
set_option maxHeartbeats 4000000 in
theorem v_X12_which_71 {X : WX} {G : GX} {o : Mm} {n : Nat} {K36 : Int32 → Int32 → Int32 → Int32 → Mm → Option (Int32 × Mm)} {rv : Int32} {hz : Mm} (hK36 : ∀ (x1 : Int32) (x2 : Int32) (x3 : Int32) (x4 : Int32) (h : Mm), K36 x1 x2 x3 x4 h = some (rv, hz) → V X G RX12 cX12_which 5 (some .int) 93 0 0 (QR X G false o (some (.int rv)) hz) false o 36 [(0, .ref (xa X 251)), (1, .int x1), (2, .int x2), (3, .int x3), (4, .int x4)] [] h) {x1 : Int32} {x2 : Int32} {x3 : Int32} {x4 : Int32} {h : Mm} (hF : X12_which_71 n K36 x1 x2 x3 x4 h = some (rv, hz)) : V X G RX12 cX12_which 5 (some .int) 93 0 0 (QR X G false o (some (.int rv)) hz) false o 71 [(0, .ref (xa X 251)), (1, .int x1), (2, .int x2), (3, .int x3), (4, .int x4)] [] h := by
  unfold X12_which_71 at hF
  refine V.iinc (v := (x4 + (1))) 4 [(4, _), (0, _), (1, _), (2, _), (3, _)] dX12_which_71 rfl rfl (by decide) rfl ?_
  refine V.goto (tgt := 36) dX12_which_74 rfl ?_
  exact V.sub [1, 2, 3, 4, 0] rfl (hK36 _ _ _ _ _ hF)
def X12_which_36 (n : Nat) : Nat → Int32 → Int32 → Int32 → Int32 → Mm → Option (Int32 × Mm)
  | 0, _, _, _, _, _ => none
  | f + 1, x1, x2, x3, x4, h => (if ((1) <<< ((h.1 251 26) &&& 31)) ≤ x4 then (if x2 = (-1) then (some (x3, h)) else (some ((-1), h))) else (bd (X12_isReadTo n x4 x1 h) (fun r21 h23 => (if r21 = true then (if x3 = x2 then (some (x4, h23)) else (X12_which_71 n (X12_which_36 n f) x1 x2 (x3 + (1)) x4 h23)) else (X12_which_71 n (X12_which_36 n f) x1 x2 x3 x4 h23)))))
set_option maxRecDepth 100000 in
set_option maxHeartbeats 4000000 in
theorem v_X12_which_36 {X : WX} {G : GX} {o : Mm} {n : Nat} {rv : Int32} {hz : Mm} : ∀ (f : Nat) (x1 : Int32) (x2 : Int32) (x3 : Int32) (x4 : Int32) (h : Mm), X12_which_36 n f x1 x2 x3 x4 h = some (rv, hz) → V X G RX12 cX12_which 5 (some .int) 93 0 0 (QR X G false o (some (.int rv)) hz) false o 36 [(0, .ref (xa X 251)), (1, .int x1), (2, .int x2), (3, .int x3), (4, .int x4)] [] h := by
  intro f
  induction f with
  | zero => intro x1 x2 x3 x4 h hF; exact nomatch (show (none : Option (Int32 × Mm)) = some (rv, hz) from hF)
  | succ f ih =>
    intro x1 x2 x3 x4 h hF
    unfold X12_which_36 at hF
    refine V.iload 4 dX12_which_36 rfl ?_
    refine V.iconst (v := 1) dX12_which_38 rfl ?_
    refine V.aload_n 0 dX12_which_39 rfl rfl ?_
    refine V.getI fl_X12_288 sh_251 rfl km_251 dX12_which_40 ?_
    refine V.ishl dX12_which_43 ?_
    refine V.icmp_ge (tgt := 77) dX12_which_44 rfl (fun c => ?_) (fun c => ?_)
    · replace hF := (if_pos c).symm.trans hF
      refine V.iload_n 2 dX12_which_77 rfl rfl ?_
      refine V.iconst (v := -1) dX12_which_78 rfl ?_
      refine V.icmp_ne (tgt := 86) dX12_which_79 rfl (fun c => ?_) (fun c => ?_)
      · replace hF := (if_neg c).symm.trans hF
        refine V.iconst (v := -1) dX12_which_86 rfl ?_
        cases hF
        exact V.iret dX12_which_87
      · replace hF := (if_pos c).symm.trans hF
        refine V.iload_n 3 dX12_which_82 rfl rfl ?_
        refine V.goto (tgt := 87) dX12_which_83 rfl ?_
        cases hF
        exact V.iret dX12_which_87
    · replace hF := (if_neg c).symm.trans hF
      refine V.aload_n 0 dX12_which_47 rfl rfl ?_
      refine V.iload 4 dX12_which_48 rfl ?_
      refine V.iload_n 1 dX12_which_50 rfl rfl ?_
      obtain ⟨r21, h23, hc22, hF⟩ := bd_s hF
      refine V.callVi mf_X12_isReadTo ml_X12_452 sh_251 (s_X12_isReadTo hc22) (by decide) rfl rfl (Nat.le_of_ble_eq_true rfl) dX12_which_51 ?_
      refine V.ifz_ne (tgt := 60) dX12_which_54 rfl (fun c => ?_) (fun c => ?_)
      · replace hF := (if_pos c).symm.trans hF
        refine V.iload_n 3 dX12_which_60 rfl rfl ?_
        refine V.iload_n 2 dX12_which_61 rfl rfl ?_
        refine V.icmp_ne (tgt := 68) dX12_which_62 rfl (fun c => ?_) (fun c => ?_)
        · replace hF := (if_neg c).symm.trans hF
          refine V.iinc (v := (x3 + (1))) 3 [(3, _), (0, _), (1, _), (2, _), (4, _)] dX12_which_68 rfl rfl (by decide) rfl ?_
          exact V.sub [1, 2, 3, 0, 4] rfl (v_X12_which_71 ih hF)
        · replace hF := (if_pos c).symm.trans hF
          refine V.iload 4 dX12_which_65 rfl ?_
          cases hF
          exact V.iret dX12_which_67
      · replace hF := (if_neg c).symm.trans hF
        refine V.goto (tgt := 71) dX12_which_57 rfl ?_
        exact (v_X12_which_71 ih hF)
def X12_which (n : Nat) (x1 : Int32) (x2 : Int32) (h : Mm) : Option (Int32 × Mm) := (if ((wI h 251 0 (0)).1 251 27) = 0 then (some ((-1), (wI h 251 0 (0)))) else (bp (X12_isIn x1.toInt64 (0 : Int64) (99 : Int64) (wI h 251 0 (0))) (fun r24 => (if r24 = true then (if (-1) ≤ x2 then (X12_which_36 n n x1 x2 (0) (0) (wI h 251 0 (0))) else (some ((-1), (wI h 251 0 (0))))) else (some ((-1), (wI h 251 0 (0))))))))
set_option maxRecDepth 100000 in
set_option maxHeartbeats 4000000 in
theorem s_X12_which {X : WX} {o : Mm} {n : Nat} {x1 : Int32} {x2 : Int32} {rv : Int32} {hz : Mm} {h : Mm} (hF : X12_which n x1 x2 h = some (rv, hz)) : Sat X yX12_which cX12_which 5 (some .int) 93 [.ref (xa X 251), .int x1, .int x2] false o h (some (.int rv)) hz := by
  unfold X12_which at hF
  refine Sat.mk (own := RX12) rfl (by decide +kernel) (Nat.le_of_ble_eq_true rfl) (fun G => ?_)
  refine V.sub (lv2 := [(0, _), (1, _), (2, _)]) [0, 1, 2] rfl ?_
  refine V.aload_n 0 dX12_which_0 rfl rfl ?_
  refine V.iconst (v := 0) dX12_which_1 rfl ?_
  refine V.putI fl_X12_93 rfl (tyX12_ok 0 (by decide)) rfl rfl sh_251 rfl km_251 dX12_which_2 ?_
  refine V.aload_n 0 dX12_which_5 rfl rfl ?_
  refine V.getI fl_X12_291 sh_251 rfl km_251 dX12_which_6 ?_
  refine V.if_eq (tgt := 29) dX12_which_9 rfl (fun c => ?_) (fun c => ?_)
  · replace hF := (if_pos c).symm.trans hF
    refine V.iconst (v := -1) dX12_which_29 rfl ?_
    cases hF
    exact V.iret dX12_which_30
  · replace hF := (if_neg c).symm.trans hF
    refine V.iload_n 1 dX12_which_12 rfl rfl ?_
    refine V.i2l dX12_which_13 ?_
    refine V.lconst (v := 0) dX12_which_14 rfl ?_
    refine V.ldc2 (v := 99) dX12_which_15 kc_X12_437 ?_
    obtain ⟨r24, hc25, hF⟩ := bp_s hF
    refine V.callSi mf_X12_isIn ml_X12_214 (s_X12_isIn hc25) (by decide) rfl rfl (Nat.le_of_ble_eq_true rfl) dX12_which_18 ?_
    refine V.ifz_eq (tgt := 29) dX12_which_21 rfl (fun c => ?_) (fun c => ?_)
    · replace hF := (if_neg c).symm.trans hF
      refine V.iconst (v := -1) dX12_which_29 rfl ?_
      cases hF
      exact V.iret dX12_which_30
    · replace hF := (if_pos c).symm.trans hF
      refine V.iload_n 2 dX12_which_24 rfl rfl ?_
      refine V.iconst (v := -1) dX12_which_25 rfl ?_
      refine V.icmp_ge (tgt := 31) dX12_which_26 rfl (fun c => ?_) (fun c => ?_)
      · replace hF := (if_pos c).symm.trans hF
        refine V.iconst (v := 0) dX12_which_31 rfl ?_
        refine V.istore_n [(3, _), (0, _), (1, _), (2, _)] dX12_which_32 rfl (by decide) rfl ?_
        refine V.iconst (v := 0) dX12_which_33 rfl ?_
        refine V.istore [(4, _), (3, _), (0, _), (1, _), (2, _)] dX12_which_34 (by decide) rfl ?_
        exact V.sub [2, 3, 4, 1, 0] rfl (v_X12_which_36 n _ _ _ _ _ hF)
      · replace hF := (if_neg c).symm.trans hF
        refine V.iconst (v := -1) dX12_which_29 rfl ?_
        cases hF
        exact V.iret dX12_which_30
/-! MonsterCotModel.isGame -/
theorem dX12_isGame_0 : decode cX12_isGame 0 = .ok (.aload_n 0, 1) := by decide +kernel
theorem dX12_isGame_1 : decode cX12_isGame 1 = .ok (.iload_n 1, 1) := by decide +kernel
theorem dX12_isGame_2 : decode cX12_isGame 2 = .ok (.invokevirtual 337, 3) := by decide +kernel
theorem dX12_isGame_5 : decode cX12_isGame 5 = .ok (.ifCond .eq 28, 3) := by decide +kernel
theorem dX12_isGame_8 : decode cX12_isGame 8 = .ok (.aload_n 0, 1) := by decide +kernel
theorem dX12_isGame_9 : decode cX12_isGame 9 = .ok (.iload_n 2, 1) := by decide +kernel
theorem dX12_isGame_10 : decode cX12_isGame 10 = .ok (.invokevirtual 337, 3) := by decide +kernel
theorem dX12_isGame_13 : decode cX12_isGame 13 = .ok (.ifCond .eq 20, 3) := by decide +kernel
theorem dX12_isGame_16 : decode cX12_isGame 16 = .ok (.iload_n 1, 1) := by decide +kernel
theorem dX12_isGame_17 : decode cX12_isGame 17 = .ok (.iload_n 2, 1) := by decide +kernel
theorem dX12_isGame_18 : decode cX12_isGame 18 = .ok (.if_icmp .eq 15, 3) := by decide +kernel
theorem dX12_isGame_21 : decode cX12_isGame 21 = .ok (.aload_n 0, 1) := by decide +kernel
theorem dX12_isGame_22 : decode cX12_isGame 22 = .ok (.iload_n 3, 1) := by decide +kernel
theorem dX12_isGame_23 : decode cX12_isGame 23 = .ok (.invokevirtual 319, 3) := by decide +kernel
theorem dX12_isGame_26 : decode cX12_isGame 26 = .ok (.ifCond .eq 7, 3) := by decide +kernel
theorem dX12_isGame_29 : decode cX12_isGame 29 = .ok (.iconst 1, 1) := by decide +kernel
theorem dX12_isGame_30 : decode cX12_isGame 30 = .ok (.goto 4, 3) := by decide +kernel
theorem dX12_isGame_33 : decode cX12_isGame 33 = .ok (.iconst 0, 1) := by decide +kernel
theorem dX12_isGame_34 : decode cX12_isGame 34 = .ok (.ireturn, 1) := by decide +kernel
def X12_isGame (x1 : Int32) (x2 : Int32) (x3 : Int32) (h : Mm) : Option Bool := (bp (X12_isHouse x1 h) (fun r7 => (if r7 = true then (bp (X12_isHouse x2 h) (fun r9 => (if r9 = true then (if x1 = x2 then (some false) else (bp (X12_isBook x3 h) (fun r11 => (if r11 = true then (some true) else (some false))))) else (some false)))) else (some false))))
set_option maxRecDepth 100000 in
set_option maxHeartbeats 4000000 in
theorem s_X12_isGame {X : WX} {o : Mm} {x1 : Int32} {x2 : Int32} {x3 : Int32} {rv : Bool} {h : Mm} (hF : X12_isGame x1 x2 x3 h = some rv) : Sat X yX12_isGame cX12_isGame 4 (some .boolean) 2 [.ref (xa X 251), .int x1, .int x2, .int x3] false o h (some (.int (b2i rv))) h := by
  unfold X12_isGame at hF
  refine Sat.mk (own := RX12) rfl (by decide +kernel) (Nat.le_of_ble_eq_true rfl) (fun G => ?_)
  refine V.sub (lv2 := [(0, _), (1, _), (2, _), (3, _)]) [0, 1, 2, 3] rfl ?_
  refine V.aload_n 0 dX12_isGame_0 rfl rfl ?_
  refine V.iload_n 1 dX12_isGame_1 rfl rfl ?_
  obtain ⟨r7, hc8, hF⟩ := bp_s hF
  refine V.callVi mf_X12_isHouse ml_X12_337 sh_251 (s_X12_isHouse hc8) (by decide) rfl rfl (Nat.le_of_ble_eq_true rfl) dX12_isGame_2 ?_
  refine V.ifz_eq (tgt := 33) dX12_isGame_5 rfl (fun c => ?_) (fun c => ?_)
  · replace hF := (if_neg c).symm.trans hF
    refine V.iconst (v := 0) dX12_isGame_33 rfl ?_
    cases hF
    exact V.bret dX12_isGame_34
  · replace hF := (if_pos c).symm.trans hF
    refine V.aload_n 0 dX12_isGame_8 rfl rfl ?_
    refine V.iload_n 2 dX12_isGame_9 rfl rfl ?_
    obtain ⟨r9, hc10, hF⟩ := bp_s hF
    refine V.callVi mf_X12_isHouse ml_X12_337 sh_251 (s_X12_isHouse hc10) (by decide) rfl rfl (Nat.le_of_ble_eq_true rfl) dX12_isGame_10 ?_
    refine V.ifz_eq (tgt := 33) dX12_isGame_13 rfl (fun c => ?_) (fun c => ?_)
    · replace hF := (if_neg c).symm.trans hF
      refine V.iconst (v := 0) dX12_isGame_33 rfl ?_
      cases hF
      exact V.bret dX12_isGame_34
    · replace hF := (if_pos c).symm.trans hF
      refine V.iload_n 1 dX12_isGame_16 rfl rfl ?_
      refine V.iload_n 2 dX12_isGame_17 rfl rfl ?_
      refine V.icmp_eq (tgt := 33) dX12_isGame_18 rfl (fun c => ?_) (fun c => ?_)
      · replace hF := (if_pos c).symm.trans hF
        refine V.iconst (v := 0) dX12_isGame_33 rfl ?_
        cases hF
        exact V.bret dX12_isGame_34
      · replace hF := (if_neg c).symm.trans hF
        refine V.aload_n 0 dX12_isGame_21 rfl rfl ?_
        refine V.iload_n 3 dX12_isGame_22 rfl rfl ?_
        obtain ⟨r11, hc12, hF⟩ := bp_s hF
        refine V.callVi mf_X12_isBook ml_X12_319 sh_251 (s_X12_isBook hc12) (by decide) rfl rfl (Nat.le_of_ble_eq_true rfl) dX12_isGame_23 ?_
        refine V.ifz_eq (tgt := 33) dX12_isGame_26 rfl (fun c => ?_) (fun c => ?_)
        · replace hF := (if_neg c).symm.trans hF
          refine V.iconst (v := 0) dX12_isGame_33 rfl ?_
          cases hF
          exact V.bret dX12_isGame_34
        · replace hF := (if_pos c).symm.trans hF
          refine V.iconst (v := 1) dX12_isGame_29 rfl ?_
          refine V.goto (tgt := 34) dX12_isGame_30 rfl ?_
          cases hF
          exact V.bret dX12_isGame_34
/-! MonsterCotModel.calmBy -/
theorem dX12_calmBy_0 : decode cX12_calmBy 0 = .ok (.iload_n 1, 1) := by decide +kernel
theorem dX12_calmBy_1 : decode cX12_calmBy 1 = .ok (.istore 6, 2) := by decide +kernel
theorem dX12_calmBy_3 : decode cX12_calmBy 3 = .ok (.iconst 0, 1) := by decide +kernel
theorem dX12_calmBy_4 : decode cX12_calmBy 4 = .ok (.istore 7, 2) := by decide +kernel
theorem dX12_calmBy_6 : decode cX12_calmBy 6 = .ok (.iload 7, 2) := by decide +kernel
theorem dX12_calmBy_8 : decode cX12_calmBy 8 = .ok (.iload_n 3, 1) := by decide +kernel
theorem dX12_calmBy_9 : decode cX12_calmBy 9 = .ok (.if_icmp .ge 58, 3) := by decide +kernel
theorem dX12_calmBy_12 : decode cX12_calmBy 12 = .ok (.iload 6, 2) := by decide +kernel
theorem dX12_calmBy_14 : decode cX12_calmBy 14 = .ok (.aload_n 0, 1) := by decide +kernel
theorem dX12_calmBy_15 : decode cX12_calmBy 15 = .ok (.iload_n 2, 1) := by decide +kernel
theorem dX12_calmBy_16 : decode cX12_calmBy 16 = .ok (.aload_n 0, 1) := by decide +kernel
theorem dX12_calmBy_17 : decode cX12_calmBy 17 = .ok (.getfield 61, 3) := by decide +kernel
theorem dX12_calmBy_20 : decode cX12_calmBy 20 = .ok (.iconst 3, 1) := by decide +kernel
theorem dX12_calmBy_21 : decode cX12_calmBy 21 = .ok (.iload 4, 2) := by decide +kernel
theorem dX12_calmBy_23 : decode cX12_calmBy 23 = .ok (.imul, 1) := by decide +kernel
theorem dX12_calmBy_24 : decode cX12_calmBy 24 = .ok (.iconst 1, 1) := by decide +kernel
theorem dX12_calmBy_25 : decode cX12_calmBy 25 = .ok (.iadd, 1) := by decide +kernel
theorem dX12_calmBy_26 : decode cX12_calmBy 26 = .ok (.iaload, 1) := by decide +kernel
theorem dX12_calmBy_27 : decode cX12_calmBy 27 = .ok (.iload 5, 2) := by decide +kernel
theorem dX12_calmBy_29 : decode cX12_calmBy 29 = .ok (.iload 7, 2) := by decide +kernel
theorem dX12_calmBy_31 : decode cX12_calmBy 31 = .ok (.aload_n 0, 1) := by decide +kernel
theorem dX12_calmBy_32 : decode cX12_calmBy 32 = .ok (.getfield 61, 3) := by decide +kernel
theorem dX12_calmBy_35 : decode cX12_calmBy 35 = .ok (.bipush 29, 2) := by decide +kernel
theorem dX12_calmBy_37 : decode cX12_calmBy 37 = .ok (.iaload, 1) := by decide +kernel
theorem dX12_calmBy_38 : decode cX12_calmBy 38 = .ok (.aload_n 0, 1) := by decide +kernel
theorem dX12_calmBy_39 : decode cX12_calmBy 39 = .ok (.getfield 61, 3) := by decide +kernel
theorem dX12_calmBy_42 : decode cX12_calmBy 42 = .ok (.iconst 3, 1) := by decide +kernel
theorem dX12_calmBy_43 : decode cX12_calmBy 43 = .ok (.iload 4, 2) := by decide +kernel
theorem dX12_calmBy_45 : decode cX12_calmBy 45 = .ok (.imul, 1) := by decide +kernel
theorem dX12_calmBy_46 : decode cX12_calmBy 46 = .ok (.iconst 0, 1) := by decide +kernel
theorem dX12_calmBy_47 : decode cX12_calmBy 47 = .ok (.iadd, 1) := by decide +kernel
theorem dX12_calmBy_48 : decode cX12_calmBy 48 = .ok (.iaload, 1) := by decide +kernel
theorem dX12_calmBy_49 : decode cX12_calmBy 49 = .ok (.iload 7, 2) := by decide +kernel
theorem dX12_calmBy_51 : decode cX12_calmBy 51 = .ok (.iadd, 1) := by decide +kernel
theorem dX12_calmBy_52 : decode cX12_calmBy 52 = .ok (.invokevirtual 331, 3) := by decide +kernel
theorem dX12_calmBy_55 : decode cX12_calmBy 55 = .ok (.iadd, 1) := by decide +kernel
theorem dX12_calmBy_56 : decode cX12_calmBy 56 = .ok (.invokestatic 334, 3) := by decide +kernel
theorem dX12_calmBy_59 : decode cX12_calmBy 59 = .ok (.istore 6, 2) := by decide +kernel
theorem dX12_calmBy_61 : decode cX12_calmBy 61 = .ok (.iinc 7 1, 3) := by decide +kernel
theorem dX12_calmBy_64 : decode cX12_calmBy 64 = .ok (.goto (-58), 3) := by decide +kernel
theorem dX12_calmBy_67 : decode cX12_calmBy 67 = .ok (.iload 6, 2) := by decide +kernel
theorem dX12_calmBy_69 : decode cX12_calmBy 69 = .ok (.ireturn, 1) := by decide +kernel
def X12_calmBy_6 (n : Nat) : Nat → Int32 → Int32 → Int32 → Int32 → Int32 → Int32 → Mm → Option (Int32 × Mm)
  | 0, _, _, _, _, _, _, _ => none
  | f + 1, x2, x3, x4, x5, x6, x7, h => (if x3 ≤ x7 then (some (x6, h)) else (if inB (((3) * x4) + (1)) (aln 264) then (if inB (29) (aln 264) then (if inB (((3) * x4) + (0)) (aln 264) then (bd (X12_page n x2 (h.1 264 (((3) * x4) + (1)).toNatClampNeg) x5 x7 (h.1 264 (29).toNatClampNeg) ((h.1 264 (((3) * x4) + (0)).toNatClampNeg) + x7) h) (fun r11 h13 => (bp (X12_held (x6 + r11) h13) (fun r14 => ((X12_calmBy_6 n f) x2 x3 x4 x5 r14 (x7 + (1)) h13))))) else none) else none) else none))
set_option maxRecDepth 100000 in
set_option maxHeartbeats 4000000 in
theorem v_X12_calmBy_6 {X : WX} {G : GX} {o : Mm} {n : Nat} {rv : Int32} {hz : Mm} : ∀ (f : Nat) (x2 : Int32) (x3 : Int32) (x4 : Int32) (x5 : Int32) (x6 : Int32) (x7 : Int32) (h : Mm), X12_calmBy_6 n f x2 x3 x4 x5 x6 x7 h = some (rv, hz) → V X G RX12 cX12_calmBy 8 (some .int) 91 0 0 (QR X G false o (some (.int rv)) hz) false o 6 [(0, .ref (xa X 251)), (2, .int x2), (3, .int x3), (4, .int x4), (5, .int x5), (6, .int x6), (7, .int x7)] [] h := by
  intro f
  induction f with
  | zero => intro x2 x3 x4 x5 x6 x7 h hF; exact nomatch (show (none : Option (Int32 × Mm)) = some (rv, hz) from hF)
  | succ f ih =>
    intro x2 x3 x4 x5 x6 x7 h hF
    unfold X12_calmBy_6 at hF
    refine V.iload 6 dX12_calmBy_6 rfl ?_
    refine V.iload_n 2 dX12_calmBy_8 rfl rfl ?_
    refine V.icmp_ge (tgt := 67) dX12_calmBy_9 rfl (fun c => ?_) (fun c => ?_)
    · replace hF := (if_pos c).symm.trans hF
      refine V.iload 5 dX12_calmBy_67 rfl ?_
      cases hF
      exact V.iret dX12_calmBy_69
    · replace hF := (if_neg c).symm.trans hF
      refine V.iload 5 dX12_calmBy_12 rfl ?_
      refine V.aload_n 0 dX12_calmBy_14 rfl rfl ?_
      refine V.iload_n 1 dX12_calmBy_15 rfl rfl ?_
      refine V.aload_n 0 dX12_calmBy_16 rfl rfl ?_
      refine V.getR (v := 264) fl_X12_61 sh_251 rfl fx_251_32 (by decide) dX12_calmBy_17 ?_
      refine V.iconst (v := 3) dX12_calmBy_20 rfl ?_
      refine V.iload 3 dX12_calmBy_21 rfl ?_
      refine V.imul dX12_calmBy_23 ?_
      refine V.iconst (v := 1) dX12_calmBy_24 rfl ?_
      refine V.iadd dX12_calmBy_25 ?_
      obtain ⟨hk, hF⟩ := ck hF
      refine V.iald io_264 hk dX12_calmBy_26 ?_
      refine V.iload 4 dX12_calmBy_27 rfl ?_
      refine V.iload 6 dX12_calmBy_29 rfl ?_
      refine V.aload_n 0 dX12_calmBy_31 rfl rfl ?_
      refine V.getR (v := 264) fl_X12_61 sh_251 rfl fx_251_32 (by decide) dX12_calmBy_32 ?_
      refine V.bipush (v := 29) dX12_calmBy_35 (by decide) ?_
      obtain ⟨hk, hF⟩ := ck hF
      refine V.iald io_264 hk dX12_calmBy_37 ?_
      refine V.aload_n 0 dX12_calmBy_38 rfl rfl ?_
      refine V.getR (v := 264) fl_X12_61 sh_251 rfl fx_251_32 (by decide) dX12_calmBy_39 ?_
      refine V.iconst (v := 3) dX12_calmBy_42 rfl ?_
      refine V.iload 3 dX12_calmBy_43 rfl ?_
      refine V.imul dX12_calmBy_45 ?_
      refine V.iconst (v := 0) dX12_calmBy_46 rfl ?_
      refine V.iadd dX12_calmBy_47 ?_
      obtain ⟨hk, hF⟩ := ck hF
      refine V.iald io_264 hk dX12_calmBy_48 ?_
      refine V.iload 6 dX12_calmBy_49 rfl ?_
      refine V.iadd dX12_calmBy_51 ?_
      obtain ⟨r11, h13, hc12, hF⟩ := bd_s hF
      refine V.callVi mf_X12_page ml_X12_331 sh_251 (s_X12_page hc12) (by decide) rfl rfl (Nat.le_of_ble_eq_true rfl) dX12_calmBy_52 ?_
      refine V.iadd dX12_calmBy_55 ?_
      obtain ⟨r14, hc15, hF⟩ := bp_s hF
      refine V.callSi mf_X12_held ml_X12_334 (s_X12_held hc15) (by decide) rfl rfl (Nat.le_of_ble_eq_true rfl) dX12_calmBy_56 ?_
      refine V.istore [(6, _), (0, _), (2, _), (3, _), (4, _), (5, _), (7, _)] dX12_calmBy_59 (by decide) rfl ?_
      refine V.iinc (v := (x7 + (1))) 6 [(7, _), (6, _), (0, _), (2, _), (3, _), (4, _), (5, _)] dX12_calmBy_61 rfl rfl (by decide) rfl ?_
      refine V.goto (tgt := 6) dX12_calmBy_64 rfl ?_
      exact V.sub [2, 3, 4, 5, 6, 1, 0] rfl (ih _ _ _ _ _ _ _ hF)
def X12_calmBy (n : Nat) (x1 : Int32) (x2 : Int32) (x3 : Int32) (x4 : Int32) (x5 : Int32) (h : Mm) : Option (Int32 × Mm) := (X12_calmBy_6 n n x2 x3 x4 x5 x1 (0) h)
set_option maxRecDepth 100000 in
set_option maxHeartbeats 4000000 in
theorem s_X12_calmBy {X : WX} {o : Mm} {n : Nat} {x1 : Int32} {x2 : Int32} {x3 : Int32} {x4 : Int32} {x5 : Int32} {rv : Int32} {hz : Mm} {h : Mm} (hF : X12_calmBy n x1 x2 x3 x4 x5 h = some (rv, hz)) : Sat X yX12_calmBy cX12_calmBy 8 (some .int) 91 [.ref (xa X 251), .int x1, .int x2, .int x3, .int x4, .int x5] false o h (some (.int rv)) hz := by
  unfold X12_calmBy at hF
  refine Sat.mk (own := RX12) rfl (by decide +kernel) (Nat.le_of_ble_eq_true rfl) (fun G => ?_)
  refine V.sub (lv2 := [(0, _), (1, _), (2, _), (3, _), (4, _), (5, _)]) [0, 1, 2, 3, 4, 5] rfl ?_
  refine V.iload_n 1 dX12_calmBy_0 rfl rfl ?_
  refine V.istore [(6, _), (0, _), (1, _), (2, _), (3, _), (4, _), (5, _)] dX12_calmBy_1 (by decide) rfl ?_
  refine V.iconst (v := 0) dX12_calmBy_3 rfl ?_
  refine V.istore [(7, _), (6, _), (0, _), (1, _), (2, _), (3, _), (4, _), (5, _)] dX12_calmBy_4 (by decide) rfl ?_
  exact V.sub [2, 4, 5, 6, 7, 1, 0] rfl (v_X12_calmBy_6 n _ _ _ _ _ _ _ hF)
/-! MonsterCotModel.gameOf -/
theorem dX12_gameOf_0 : decode cX12_gameOf 0 = .ok (.aload_n 0, 1) := by decide +kernel
theorem dX12_gameOf_1 : decode cX12_gameOf 1 = .ok (.getfield 61, 3) := by decide +kernel
theorem dX12_gameOf_4 : decode cX12_gameOf 4 = .ok (.bipush 18, 2) := by decide +kernel
theorem dX12_gameOf_6 : decode cX12_gameOf 6 = .ok (.aload_n 0, 1) := by decide +kernel
theorem dX12_gameOf_7 : decode cX12_gameOf 7 = .ok (.iload_n 3, 1) := by decide +kernel
theorem dX12_gameOf_8 : decode cX12_gameOf 8 = .ok (.invokevirtual 328, 3) := by decide +kernel
theorem dX12_gameOf_11 : decode cX12_gameOf 11 = .ok (.iadd, 1) := by decide +kernel
theorem dX12_gameOf_12 : decode cX12_gameOf 12 = .ok (.iaload, 1) := by decide +kernel
theorem dX12_gameOf_13 : decode cX12_gameOf 13 = .ok (.istore 7, 2) := by decide +kernel
theorem dX12_gameOf_15 : decode cX12_gameOf 15 = .ok (.aload_n 0, 1) := by decide +kernel
theorem dX12_gameOf_16 : decode cX12_gameOf 16 = .ok (.aload_n 0, 1) := by decide +kernel
theorem dX12_gameOf_17 : decode cX12_gameOf 17 = .ok (.getfield 61, 3) := by decide +kernel
theorem dX12_gameOf_20 : decode cX12_gameOf 20 = .ok (.bipush 22, 2) := by decide +kernel
theorem dX12_gameOf_22 : decode cX12_gameOf 22 = .ok (.iaload, 1) := by decide +kernel
theorem dX12_gameOf_23 : decode cX12_gameOf 23 = .ok (.iload_n 3, 1) := by decide +kernel
theorem dX12_gameOf_24 : decode cX12_gameOf 24 = .ok (.iload 4, 2) := by decide +kernel
theorem dX12_gameOf_26 : decode cX12_gameOf 26 = .ok (.iload_n 1, 1) := by decide +kernel
theorem dX12_gameOf_27 : decode cX12_gameOf 27 = .ok (.iload 7, 2) := by decide +kernel
theorem dX12_gameOf_29 : decode cX12_gameOf 29 = .ok (.invokevirtual 455, 3) := by decide +kernel
theorem dX12_gameOf_32 : decode cX12_gameOf 32 = .ok (.istore 8, 2) := by decide +kernel
theorem dX12_gameOf_34 : decode cX12_gameOf 34 = .ok (.aload_n 0, 1) := by decide +kernel
theorem dX12_gameOf_35 : decode cX12_gameOf 35 = .ok (.iload 8, 2) := by decide +kernel
theorem dX12_gameOf_37 : decode cX12_gameOf 37 = .ok (.iload_n 3, 1) := by decide +kernel
theorem dX12_gameOf_38 : decode cX12_gameOf 38 = .ok (.iload 5, 2) := by decide +kernel
theorem dX12_gameOf_40 : decode cX12_gameOf 40 = .ok (.iload_n 2, 1) := by decide +kernel
theorem dX12_gameOf_41 : decode cX12_gameOf 41 = .ok (.iload 4, 2) := by decide +kernel
theorem dX12_gameOf_43 : decode cX12_gameOf 43 = .ok (.ifCond .ne 8, 3) := by decide +kernel
theorem dX12_gameOf_46 : decode cX12_gameOf 46 = .ok (.iload 7, 2) := by decide +kernel
theorem dX12_gameOf_48 : decode cX12_gameOf 48 = .ok (.goto 12, 3) := by decide +kernel
theorem dX12_gameOf_51 : decode cX12_gameOf 51 = .ok (.bipush 9, 2) := by decide +kernel
theorem dX12_gameOf_53 : decode cX12_gameOf 53 = .ok (.iload 7, 2) := by decide +kernel
theorem dX12_gameOf_55 : decode cX12_gameOf 55 = .ok (.iconst 1, 1) := by decide +kernel
theorem dX12_gameOf_56 : decode cX12_gameOf 56 = .ok (.iadd, 1) := by decide +kernel
theorem dX12_gameOf_57 : decode cX12_gameOf 57 = .ok (.invokestatic 315, 3) := by decide +kernel
theorem dX12_gameOf_60 : decode cX12_gameOf 60 = .ok (.invokevirtual 455, 3) := by decide +kernel
theorem dX12_gameOf_63 : decode cX12_gameOf 63 = .ok (.istore 8, 2) := by decide +kernel
theorem dX12_gameOf_65 : decode cX12_gameOf 65 = .ok (.iload 6, 2) := by decide +kernel
theorem dX12_gameOf_67 : decode cX12_gameOf 67 = .ok (.ifCond .ne 8, 3) := by decide +kernel
theorem dX12_gameOf_70 : decode cX12_gameOf 70 = .ok (.iload 4, 2) := by decide +kernel
theorem dX12_gameOf_72 : decode cX12_gameOf 72 = .ok (.goto 5, 3) := by decide +kernel
theorem dX12_gameOf_75 : decode cX12_gameOf 75 = .ok (.iload 5, 2) := by decide +kernel
theorem dX12_gameOf_77 : decode cX12_gameOf 77 = .ok (.istore 9, 2) := by decide +kernel
theorem dX12_gameOf_79 : decode cX12_gameOf 79 = .ok (.iload 6, 2) := by decide +kernel
theorem dX12_gameOf_81 : decode cX12_gameOf 81 = .ok (.ifCond .ne 8, 3) := by decide +kernel
theorem dX12_gameOf_84 : decode cX12_gameOf 84 = .ok (.iload 5, 2) := by decide +kernel
theorem dX12_gameOf_86 : decode cX12_gameOf 86 = .ok (.goto 5, 3) := by decide +kernel
theorem dX12_gameOf_89 : decode cX12_gameOf 89 = .ok (.iload 4, 2) := by decide +kernel
theorem dX12_gameOf_91 : decode cX12_gameOf 91 = .ok (.istore 10, 2) := by decide +kernel
theorem dX12_gameOf_93 : decode cX12_gameOf 93 = .ok (.aload_n 0, 1) := by decide +kernel
theorem dX12_gameOf_94 : decode cX12_gameOf 94 = .ok (.iload 8, 2) := by decide +kernel
theorem dX12_gameOf_96 : decode cX12_gameOf 96 = .ok (.invokevirtual 340, 3) := by decide +kernel
theorem dX12_gameOf_99 : decode cX12_gameOf 99 = .ok (.ifCond .eq 9, 3) := by decide +kernel
theorem dX12_gameOf_102 : decode cX12_gameOf 102 = .ok (.bipush 9, 2) := by decide +kernel
theorem dX12_gameOf_104 : decode cX12_gameOf 104 = .ok (.iload 9, 2) := by decide +kernel
theorem dX12_gameOf_106 : decode cX12_gameOf 106 = .ok (.isub, 1) := by decide +kernel
theorem dX12_gameOf_107 : decode cX12_gameOf 107 = .ok (.ireturn, 1) := by decide +kernel
theorem dX12_gameOf_108 : decode cX12_gameOf 108 = .ok (.iload 9, 2) := by decide +kernel
theorem dX12_gameOf_110 : decode cX12_gameOf 110 = .ok (.iload 10, 2) := by decide +kernel
theorem dX12_gameOf_112 : decode cX12_gameOf 112 = .ok (.if_icmp .ge 11, 3) := by decide +kernel
theorem dX12_gameOf_115 : decode cX12_gameOf 115 = .ok (.iload 9, 2) := by decide +kernel
theorem dX12_gameOf_117 : decode cX12_gameOf 117 = .ok (.ineg, 1) := by decide +kernel
theorem dX12_gameOf_118 : decode cX12_gameOf 118 = .ok (.iconst 2, 1) := by decide +kernel
theorem dX12_gameOf_119 : decode cX12_gameOf 119 = .ok (.isub, 1) := by decide +kernel
theorem dX12_gameOf_120 : decode cX12_gameOf 120 = .ok (.goto 6, 3) := by decide +kernel
theorem dX12_gameOf_123 : decode cX12_gameOf 123 = .ok (.iload 9, 2) := by decide +kernel
theorem dX12_gameOf_125 : decode cX12_gameOf 125 = .ok (.ineg, 1) := by decide +kernel
theorem dX12_gameOf_126 : decode cX12_gameOf 126 = .ok (.ireturn, 1) := by decide +kernel
def X12_gameOf_91 (n : Nat) (x8 : Int32) (x9 : Int32) (s0 : Int32) (h : Mm) : Option (Int32 × Mm) := (bp (X12_isEnough x8 h) (fun r33 => (if r33 = true then (some (((9) - x9), h)) else (if s0 ≤ x9 then (some ((-x9), h)) else (some (((-x9) - (2)), h))))))
set_option maxRecDepth 100000 in
set_option maxHeartbeats 4000000 in
theorem v_X12_gameOf_91 {X : WX} {G : GX} {o : Mm} {n : Nat} {rv : Int32} {hz : Mm} {x8 : Int32} {x9 : Int32} {s0 : Int32} {h : Mm} (hF : X12_gameOf_91 n x8 x9 s0 h = some (rv, hz)) : V X G RX12 cX12_gameOf 11 (some .int) 92 0 0 (QR X G false o (some (.int rv)) hz) false o 91 [(0, .ref (xa X 251)), (8, .int x8), (9, .int x9)] [.int s0] h := by
  unfold X12_gameOf_91 at hF
  refine V.istore [(10, _), (0, _), (8, _), (9, _)] dX12_gameOf_91 (by decide) rfl ?_
  refine V.aload_n 1 dX12_gameOf_93 rfl rfl ?_
  refine V.iload 2 dX12_gameOf_94 rfl ?_
  obtain ⟨r33, hc34, hF⟩ := bp_s hF
  refine V.callVi mf_X12_isEnough ml_X12_340 sh_251 (s_X12_isEnough hc34) (by decide) rfl rfl (Nat.le_of_ble_eq_true rfl) dX12_gameOf_96 ?_
  refine V.ifz_eq (tgt := 108) dX12_gameOf_99 rfl (fun c => ?_) (fun c => ?_)
  · replace hF := (if_neg c).symm.trans hF
    refine V.iload 3 dX12_gameOf_108 rfl ?_
    refine V.iload 0 dX12_gameOf_110 rfl ?_
    refine V.icmp_ge (tgt := 123) dX12_gameOf_112 rfl (fun c => ?_) (fun c => ?_)
    · replace hF := (if_pos c).symm.trans hF
      refine V.iload 3 dX12_gameOf_123 rfl ?_
      refine V.ineg dX12_gameOf_125 ?_
      cases hF
      exact V.iret dX12_gameOf_126
    · replace hF := (if_neg c).symm.trans hF
      refine V.iload 3 dX12_gameOf_115 rfl ?_
      refine V.ineg dX12_gameOf_117 ?_
      refine V.iconst (v := 2) dX12_gameOf_118 rfl ?_
      refine V.isub dX12_gameOf_119 ?_
      refine V.goto (tgt := 126) dX12_gameOf_120 rfl ?_
      cases hF
      exact V.iret dX12_gameOf_126
  · replace hF := (if_pos c).symm.trans hF
    refine V.bipush (v := 9) dX12_gameOf_102 (by decide) ?_
    refine V.iload 3 dX12_gameOf_104 rfl ?_
    refine V.isub dX12_gameOf_106 ?_
    cases hF
    exact V.iret dX12_gameOf_107
def X12_gameOf_77 (n : Nat) (x4 : Int32) (x5 : Int32) (x6 : Int32) (x8 : Int32) (s0 : Int32) (h : Mm) : Option (Int32 × Mm) := (if x6 = 0 then (X12_gameOf_91 n x8 s0 x5 h) else (X12_gameOf_91 n x8 s0 x4 h))
set_option maxRecDepth 100000 in
set_option maxHeartbeats 4000000 in
theorem v_X12_gameOf_77 {X : WX} {G : GX} {o : Mm} {n : Nat} {rv : Int32} {hz : Mm} {x4 : Int32} {x5 : Int32} {x6 : Int32} {x8 : Int32} {s0 : Int32} {h : Mm} (hF : X12_gameOf_77 n x4 x5 x6 x8 s0 h = some (rv, hz)) : V X G RX12 cX12_gameOf 11 (some .int) 92 0 0 (QR X G false o (some (.int rv)) hz) false o 77 [(0, .ref (xa X 251)), (4, .int x4), (5, .int x5), (6, .int x6), (8, .int x8)] [.int s0] h := by
  unfold X12_gameOf_77 at hF
  refine V.istore [(9, _), (0, _), (4, _), (5, _), (6, _), (8, _)] dX12_gameOf_77 (by decide) rfl ?_
  refine V.iload 4 dX12_gameOf_79 rfl ?_
  refine V.if_ne (tgt := 89) dX12_gameOf_81 rfl (fun c => ?_) (fun c => ?_)
  · replace hF := (if_neg c).symm.trans hF
    refine V.iload 2 dX12_gameOf_89 rfl ?_
    exact V.sub [1, 5, 0] rfl (v_X12_gameOf_91 hF)
  · replace hF := (if_pos c).symm.trans hF
    refine V.iload 3 dX12_gameOf_84 rfl ?_
    refine V.goto (tgt := 91) dX12_gameOf_86 rfl ?_
    exact V.sub [1, 5, 0] rfl (v_X12_gameOf_91 hF)
def X12_gameOf_60 (n : Nat) (x4 : Int32) (x5 : Int32) (x6 : Int32) (s1 : Int32) (s2 : Int32) (s3 : Int32) (s4 : Int32) (s5 : Int32) (h : Mm) : Option (Int32 × Mm) := (bd (X12_calmBy n s1 s2 s3 s4 s5 h) (fun r35 h37 => (if x6 = 0 then (X12_gameOf_77 n x4 x5 x6 r35 x4 h37) else (X12_gameOf_77 n x4 x5 x6 r35 x5 h37))))
set_option maxRecDepth 100000 in
set_option maxHeartbeats 4000000 in
theorem v_X12_gameOf_60 {X : WX} {G : GX} {o : Mm} {n : Nat} {rv : Int32} {hz : Mm} {x4 : Int32} {x5 : Int32} {x6 : Int32} {s1 : Int32} {s2 : Int32} {s3 : Int32} {s4 : Int32} {s5 : Int32} {h : Mm} (hF : X12_gameOf_60 n x4 x5 x6 s1 s2 s3 s4 s5 h = some (rv, hz)) : V X G RX12 cX12_gameOf 11 (some .int) 92 0 0 (QR X G false o (some (.int rv)) hz) false o 60 [(0, .ref (xa X 251)), (4, .int x4), (5, .int x5), (6, .int x6)] [.int s5, .int s4, .int s3, .int s2, .int s1, .ref (xa X 251)] h := by
  unfold X12_gameOf_60 at hF
  obtain ⟨r35, h37, hc36, hF⟩ := bd_s hF
  refine V.callVi mf_X12_calmBy ml_X12_455 sh_251 (s_X12_calmBy hc36) (by decide) rfl rfl (Nat.le_of_ble_eq_true rfl) dX12_gameOf_60 ?_
  refine V.istore [(8, _), (0, _), (4, _), (5, _), (6, _)] dX12_gameOf_63 (by decide) rfl ?_
  refine V.iload 4 dX12_gameOf_65 rfl ?_
  refine V.if_ne (tgt := 75) dX12_gameOf_67 rfl (fun c => ?_) (fun c => ?_)
  · replace hF := (if_neg c).symm.trans hF
    refine V.iload 3 dX12_gameOf_75 rfl ?_
    exact V.sub [1, 2, 3, 4, 0] rfl (v_X12_gameOf_77 hF)
  · replace hF := (if_pos c).symm.trans hF
    refine V.iload 2 dX12_gameOf_70 rfl ?_
    refine V.goto (tgt := 77) dX12_gameOf_72 rfl ?_
    exact V.sub [1, 2, 3, 4, 0] rfl (v_X12_gameOf_77 hF)
def X12_gameOf (n : Nat) (x1 : Int32) (x2 : Int32) (x3 : Int32) (x4 : Int32) (x5 : Int32) (x6 : Int32) (h : Mm) : Option (Int32 × Mm) := (bp (X12_kindOf x3 h) (fun r38 => (if inB ((18) + r38) (aln 264) then (if inB (22) (aln 264) then (bd (X12_calmBy n (h.1 264 (22).toNatClampNeg) x3 x4 x1 (h.1 264 ((18) + r38).toNatClampNeg) h) (fun r40 h42 => (if x4 = 0 then (X12_gameOf_60 n x4 x5 x6 r40 x3 x5 x2 (h.1 264 ((18) + r38).toNatClampNeg) h42) else (bp (J9_min_7cf53 (9) ((h.1 264 ((18) + r38).toNatClampNeg) + (1)) h42) (fun r43 => (X12_gameOf_60 n x4 x5 x6 r40 x3 x5 x2 r43 h42)))))) else none) else none)))
set_option maxRecDepth 100000 in
set_option maxHeartbeats 4000000 in
theorem s_X12_gameOf {X : WX} {o : Mm} {n : Nat} {x1 : Int32} {x2 : Int32} {x3 : Int32} {x4 : Int32} {x5 : Int32} {x6 : Int32} {rv : Int32} {hz : Mm} {h : Mm} (hF : X12_gameOf n x1 x2 x3 x4 x5 x6 h = some (rv, hz)) : Sat X yX12_gameOf cX12_gameOf 11 (some .int) 92 [.ref (xa X 251), .int x1, .int x2, .int x3, .int x4, .int x5, .int x6] false o h (some (.int rv)) hz := by
  unfold X12_gameOf at hF
  refine Sat.mk (own := RX12) rfl (by decide +kernel) (Nat.le_of_ble_eq_true rfl) (fun G => ?_)
  refine V.sub (lv2 := [(0, _), (1, _), (2, _), (3, _), (4, _), (5, _), (6, _)]) [0, 1, 2, 3, 4, 5, 6] rfl ?_
  refine V.aload_n 0 dX12_gameOf_0 rfl rfl ?_
  refine V.getR (v := 264) fl_X12_61 sh_251 rfl fx_251_32 (by decide) dX12_gameOf_1 ?_
  refine V.bipush (v := 18) dX12_gameOf_4 (by decide) ?_
  refine V.aload_n 0 dX12_gameOf_6 rfl rfl ?_
  refine V.iload_n 3 dX12_gameOf_7 rfl rfl ?_
  obtain ⟨r38, hc39, hF⟩ := bp_s hF
  refine V.callVi mf_X12_kindOf ml_X12_328 sh_251 (s_X12_kindOf hc39) (by decide) rfl rfl (Nat.le_of_ble_eq_true rfl) dX12_gameOf_8 ?_
  refine V.iadd dX12_gameOf_11 ?_
  obtain ⟨hk, hF⟩ := ck hF
  refine V.iald io_264 hk dX12_gameOf_12 ?_
  refine V.istore [(7, _), (0, _), (1, _), (2, _), (3, _), (4, _), (5, _), (6, _)] dX12_gameOf_13 (by decide) rfl ?_
  refine V.aload_n 1 dX12_gameOf_15 rfl rfl ?_
  refine V.aload_n 1 dX12_gameOf_16 rfl rfl ?_
  refine V.getR (v := 264) fl_X12_61 sh_251 rfl fx_251_32 (by decide) dX12_gameOf_17 ?_
  refine V.bipush (v := 22) dX12_gameOf_20 (by decide) ?_
  obtain ⟨hk, hF⟩ := ck hF
  refine V.iald io_264 hk dX12_gameOf_22 ?_
  refine V.iload_n 4 dX12_gameOf_23 rfl rfl ?_
  refine V.iload 5 dX12_gameOf_24 rfl ?_
  refine V.iload_n 2 dX12_gameOf_26 rfl rfl ?_
  refine V.iload 0 dX12_gameOf_27 rfl ?_
  obtain ⟨r40, h42, hc41, hF⟩ := bd_s hF
  refine V.callVi mf_X12_calmBy ml_X12_455 sh_251 (s_X12_calmBy hc41) (by decide) rfl rfl (Nat.le_of_ble_eq_true rfl) dX12_gameOf_29 ?_
  refine V.istore [(8, _), (7, _), (0, _), (1, _), (2, _), (3, _), (4, _), (5, _), (6, _)] dX12_gameOf_32 (by decide) rfl ?_
  refine V.aload_n 2 dX12_gameOf_34 rfl rfl ?_
  refine V.iload 0 dX12_gameOf_35 rfl ?_
  refine V.iload_n 5 dX12_gameOf_37 rfl rfl ?_
  refine V.iload 7 dX12_gameOf_38 rfl ?_
  refine V.iload_n 4 dX12_gameOf_40 rfl rfl ?_
  refine V.iload 6 dX12_gameOf_41 rfl ?_
  refine V.if_ne (tgt := 51) dX12_gameOf_43 rfl (fun c => ?_) (fun c => ?_)
  · replace hF := (if_neg c).symm.trans hF
    refine V.bipush (v := 9) dX12_gameOf_51 (by decide) ?_
    refine V.iload 1 dX12_gameOf_53 rfl ?_
    refine V.iconst (v := 1) dX12_gameOf_55 rfl ?_
    refine V.iadd dX12_gameOf_56 ?_
    obtain ⟨r43, hc44, hF⟩ := bp_s hF
    refine V.callSi mf_J9_min_7cf53 ml_X12_315 (s_J9_min_7cf53 hc44) (by decide) rfl rfl (Nat.le_of_ble_eq_true rfl) dX12_gameOf_57 ?_
    exact V.sub [2, 6, 7, 8] rfl (v_X12_gameOf_60 hF)
  · replace hF := (if_pos c).symm.trans hF
    refine V.iload 1 dX12_gameOf_46 rfl ?_
    refine V.goto (tgt := 60) dX12_gameOf_48 rfl ?_
    exact V.sub [2, 6, 7, 8] rfl (v_X12_gameOf_60 hF)
/-! MonsterCotModel.game -/
theorem dX12_game_0 : decode cX12_game 0 = .ok (.aload_n 0, 1) := by decide +kernel
theorem dX12_game_1 : decode cX12_game 1 = .ok (.iconst 0, 1) := by decide +kernel
theorem dX12_game_2 : decode cX12_game 2 = .ok (.putfield 93, 3) := by decide +kernel
theorem dX12_game_5 : decode cX12_game 5 = .ok (.aload_n 0, 1) := by decide +kernel
theorem dX12_game_6 : decode cX12_game 6 = .ok (.iload_n 1, 1) := by decide +kernel
theorem dX12_game_7 : decode cX12_game 7 = .ok (.iload_n 2, 1) := by decide +kernel
theorem dX12_game_8 : decode cX12_game 8 = .ok (.iload_n 3, 1) := by decide +kernel
theorem dX12_game_9 : decode cX12_game 9 = .ok (.invokevirtual 459, 3) := by decide +kernel
theorem dX12_game_12 : decode cX12_game 12 = .ok (.ifCond .eq 62, 3) := by decide +kernel
theorem dX12_game_15 : decode cX12_game 15 = .ok (.iload 4, 2) := by decide +kernel
theorem dX12_game_17 : decode cX12_game 17 = .ok (.i2l, 1) := by decide +kernel
theorem dX12_game_18 : decode cX12_game 18 = .ok (.lconst 0, 1) := by decide +kernel
theorem dX12_game_19 : decode cX12_game 19 = .ok (.aload_n 0, 1) := by decide +kernel
theorem dX12_game_20 : decode cX12_game 20 = .ok (.iload_n 3, 1) := by decide +kernel
theorem dX12_game_21 : decode cX12_game 21 = .ok (.invokevirtual 322, 3) := by decide +kernel
theorem dX12_game_24 : decode cX12_game 24 = .ok (.i2l, 1) := by decide +kernel
theorem dX12_game_25 : decode cX12_game 25 = .ok (.invokestatic 214, 3) := by decide +kernel
theorem dX12_game_28 : decode cX12_game 28 = .ok (.ifCond .eq 46, 3) := by decide +kernel
theorem dX12_game_31 : decode cX12_game 31 = .ok (.iload 5, 2) := by decide +kernel
theorem dX12_game_33 : decode cX12_game 33 = .ok (.i2l, 1) := by decide +kernel
theorem dX12_game_34 : decode cX12_game 34 = .ok (.lconst 0, 1) := by decide +kernel
theorem dX12_game_35 : decode cX12_game 35 = .ok (.aload_n 0, 1) := by decide +kernel
theorem dX12_game_36 : decode cX12_game 36 = .ok (.iload_n 3, 1) := by decide +kernel
theorem dX12_game_37 : decode cX12_game 37 = .ok (.invokevirtual 322, 3) := by decide +kernel
theorem dX12_game_40 : decode cX12_game 40 = .ok (.i2l, 1) := by decide +kernel
theorem dX12_game_41 : decode cX12_game 41 = .ok (.invokestatic 214, 3) := by decide +kernel
theorem dX12_game_44 : decode cX12_game 44 = .ok (.ifCond .eq 30, 3) := by decide +kernel
theorem dX12_game_47 : decode cX12_game 47 = .ok (.iload 6, 2) := by decide +kernel
theorem dX12_game_49 : decode cX12_game 49 = .ok (.i2l, 1) := by decide +kernel
theorem dX12_game_50 : decode cX12_game 50 = .ok (.lconst 0, 1) := by decide +kernel
theorem dX12_game_51 : decode cX12_game 51 = .ok (.lconst 1, 1) := by decide +kernel
theorem dX12_game_52 : decode cX12_game 52 = .ok (.invokestatic 214, 3) := by decide +kernel
theorem dX12_game_55 : decode cX12_game 55 = .ok (.ifCond .eq 19, 3) := by decide +kernel
theorem dX12_game_58 : decode cX12_game 58 = .ok (.aload_n 0, 1) := by decide +kernel
theorem dX12_game_59 : decode cX12_game 59 = .ok (.iload_n 1, 1) := by decide +kernel
theorem dX12_game_60 : decode cX12_game 60 = .ok (.iload_n 2, 1) := by decide +kernel
theorem dX12_game_61 : decode cX12_game 61 = .ok (.iload_n 3, 1) := by decide +kernel
theorem dX12_game_62 : decode cX12_game 62 = .ok (.iload 4, 2) := by decide +kernel
theorem dX12_game_64 : decode cX12_game 64 = .ok (.iload 5, 2) := by decide +kernel
theorem dX12_game_66 : decode cX12_game 66 = .ok (.iload 6, 2) := by decide +kernel
theorem dX12_game_68 : decode cX12_game 68 = .ok (.invokevirtual 463, 3) := by decide +kernel
theorem dX12_game_71 : decode cX12_game 71 = .ok (.goto 6, 3) := by decide +kernel
theorem dX12_game_74 : decode cX12_game 74 = .ok (.ldc_w 400, 3) := by decide +kernel
theorem dX12_game_77 : decode cX12_game 77 = .ok (.ireturn, 1) := by decide +kernel
def X12_game_74 (n : Nat) (h : Mm) : Option (Int32 × Mm) := (some ((-1000000), h))
set_option maxRecDepth 100000 in
set_option maxHeartbeats 4000000 in
theorem v_X12_game_74 {X : WX} {G : GX} {o : Mm} {n : Nat} {rv : Int32} {hz : Mm} {h : Mm} (hF : X12_game_74 n h = some (rv, hz)) : V X G RX12 cX12_game 7 (some .int) 93 0 0 (QR X G false o (some (.int rv)) hz) false o 74 [] [] h := by
  unfold X12_game_74 at hF
  refine V.ldcw (v := -1000000) dX12_game_74 kc_X12_400 ?_
  cases hF
  exact V.iret dX12_game_77
def X12_game (n : Nat) (x1 : Int32) (x2 : Int32) (x3 : Int32) (x4 : Int32) (x5 : Int32) (x6 : Int32) (h : Mm) : Option (Int32 × Mm) := (bp (X12_isGame x1 x2 x3 (wI h 251 0 (0))) (fun r31 => (if r31 = true then (bp (X12_pagesOf x3 (wI h 251 0 (0))) (fun r33 => (bp (X12_isIn x4.toInt64 (0 : Int64) r33.toInt64 (wI h 251 0 (0))) (fun r35 => (if r35 = true then (bp (X12_pagesOf x3 (wI h 251 0 (0))) (fun r37 => (bp (X12_isIn x5.toInt64 (0 : Int64) r37.toInt64 (wI h 251 0 (0))) (fun r39 => (if r39 = true then (bp (X12_isIn x6.toInt64 (0 : Int64) (1 : Int64) (wI h 251 0 (0))) (fun r41 => (if r41 = true then (bd (X12_gameOf n x1 x2 x3 x4 x5 x6 (wI h 251 0 (0))) (fun r43 h45 => (some (r43, h45)))) else (X12_game_74 n (wI h 251 0 (0)))))) else (X12_game_74 n (wI h 251 0 (0)))))))) else (X12_game_74 n (wI h 251 0 (0)))))))) else (X12_game_74 n (wI h 251 0 (0))))))
set_option maxRecDepth 100000 in
set_option maxHeartbeats 4000000 in
theorem s_X12_game {X : WX} {o : Mm} {n : Nat} {x1 : Int32} {x2 : Int32} {x3 : Int32} {x4 : Int32} {x5 : Int32} {x6 : Int32} {rv : Int32} {hz : Mm} {h : Mm} (hF : X12_game n x1 x2 x3 x4 x5 x6 h = some (rv, hz)) : Sat X yX12_game cX12_game 7 (some .int) 93 [.ref (xa X 251), .int x1, .int x2, .int x3, .int x4, .int x5, .int x6] false o h (some (.int rv)) hz := by
  unfold X12_game at hF
  refine Sat.mk (own := RX12) rfl (by decide +kernel) (Nat.le_of_ble_eq_true rfl) (fun G => ?_)
  refine V.sub (lv2 := [(0, _), (1, _), (2, _), (3, _), (4, _), (5, _), (6, _)]) [0, 1, 2, 3, 4, 5, 6] rfl ?_
  refine V.aload_n 0 dX12_game_0 rfl rfl ?_
  refine V.iconst (v := 0) dX12_game_1 rfl ?_
  refine V.putI fl_X12_93 rfl (tyX12_ok 0 (by decide)) rfl rfl sh_251 rfl km_251 dX12_game_2 ?_
  refine V.aload_n 0 dX12_game_5 rfl rfl ?_
  refine V.iload_n 1 dX12_game_6 rfl rfl ?_
  refine V.iload_n 2 dX12_game_7 rfl rfl ?_
  refine V.iload_n 3 dX12_game_8 rfl rfl ?_
  obtain ⟨r31, hc32, hF⟩ := bp_s hF
  refine V.callVi mf_X12_isGame ml_X12_459 sh_251 (s_X12_isGame hc32) (by decide) rfl rfl (Nat.le_of_ble_eq_true rfl) dX12_game_9 ?_
  refine V.ifz_eq (tgt := 74) dX12_game_12 rfl (fun c => ?_) (fun c => ?_)
  · replace hF := (if_neg c).symm.trans hF
    exact V.sub [] rfl (v_X12_game_74 hF)
  · replace hF := (if_pos c).symm.trans hF
    refine V.iload 4 dX12_game_15 rfl ?_
    refine V.i2l dX12_game_17 ?_
    refine V.lconst (v := 0) dX12_game_18 rfl ?_
    refine V.aload_n 0 dX12_game_19 rfl rfl ?_
    refine V.iload_n 3 dX12_game_20 rfl rfl ?_
    obtain ⟨r33, hc34, hF⟩ := bp_s hF
    refine V.callVi mf_X12_pagesOf ml_X12_322 sh_251 (s_X12_pagesOf hc34) (by decide) rfl rfl (Nat.le_of_ble_eq_true rfl) dX12_game_21 ?_
    refine V.i2l dX12_game_24 ?_
    obtain ⟨r35, hc36, hF⟩ := bp_s hF
    refine V.callSi mf_X12_isIn ml_X12_214 (s_X12_isIn hc36) (by decide) rfl rfl (Nat.le_of_ble_eq_true rfl) dX12_game_25 ?_
    refine V.ifz_eq (tgt := 74) dX12_game_28 rfl (fun c => ?_) (fun c => ?_)
    · replace hF := (if_neg c).symm.trans hF
      exact V.sub [] rfl (v_X12_game_74 hF)
    · replace hF := (if_pos c).symm.trans hF
      refine V.iload 5 dX12_game_31 rfl ?_
      refine V.i2l dX12_game_33 ?_
      refine V.lconst (v := 0) dX12_game_34 rfl ?_
      refine V.aload_n 0 dX12_game_35 rfl rfl ?_
      refine V.iload_n 3 dX12_game_36 rfl rfl ?_
      obtain ⟨r37, hc38, hF⟩ := bp_s hF
      refine V.callVi mf_X12_pagesOf ml_X12_322 sh_251 (s_X12_pagesOf hc38) (by decide) rfl rfl (Nat.le_of_ble_eq_true rfl) dX12_game_37 ?_
      refine V.i2l dX12_game_40 ?_
      obtain ⟨r39, hc40, hF⟩ := bp_s hF
      refine V.callSi mf_X12_isIn ml_X12_214 (s_X12_isIn hc40) (by decide) rfl rfl (Nat.le_of_ble_eq_true rfl) dX12_game_41 ?_
      refine V.ifz_eq (tgt := 74) dX12_game_44 rfl (fun c => ?_) (fun c => ?_)
      · replace hF := (if_neg c).symm.trans hF
        exact V.sub [] rfl (v_X12_game_74 hF)
      · replace hF := (if_pos c).symm.trans hF
        refine V.iload 6 dX12_game_47 rfl ?_
        refine V.i2l dX12_game_49 ?_
        refine V.lconst (v := 0) dX12_game_50 rfl ?_
        refine V.lconst (v := 1) dX12_game_51 rfl ?_
        obtain ⟨r41, hc42, hF⟩ := bp_s hF
        refine V.callSi mf_X12_isIn ml_X12_214 (s_X12_isIn hc42) (by decide) rfl rfl (Nat.le_of_ble_eq_true rfl) dX12_game_52 ?_
        refine V.ifz_eq (tgt := 74) dX12_game_55 rfl (fun c => ?_) (fun c => ?_)
        · replace hF := (if_neg c).symm.trans hF
          exact V.sub [] rfl (v_X12_game_74 hF)
        · replace hF := (if_pos c).symm.trans hF
          refine V.aload_n 0 dX12_game_58 rfl rfl ?_
          refine V.iload_n 1 dX12_game_59 rfl rfl ?_
          refine V.iload_n 2 dX12_game_60 rfl rfl ?_
          refine V.iload_n 3 dX12_game_61 rfl rfl ?_
          refine V.iload 4 dX12_game_62 rfl ?_
          refine V.iload 5 dX12_game_64 rfl ?_
          refine V.iload 6 dX12_game_66 rfl ?_
          obtain ⟨r43, h45, hc44, hF⟩ := bd_s hF
          refine V.callVi mf_X12_gameOf ml_X12_463 sh_251 (s_X12_gameOf hc44) (by decide) rfl rfl (Nat.le_of_ble_eq_true rfl) dX12_game_68 ?_
          refine V.goto (tgt := 77) dX12_game_71 rfl ?_
          cases hF
          exact V.iret dX12_game_77
/-! MonsterCotModel.rests -/
theorem dX12_rests_0 : decode cX12_rests 0 = .ok (.aload_n 0, 1) := by decide +kernel
theorem dX12_rests_1 : decode cX12_rests 1 = .ok (.iconst 0, 1) := by decide +kernel
theorem dX12_rests_2 : decode cX12_rests 2 = .ok (.putfield 93, 3) := by decide +kernel
theorem dX12_rests_5 : decode cX12_rests 5 = .ok (.aload_n 0, 1) := by decide +kernel
theorem dX12_rests_6 : decode cX12_rests 6 = .ok (.iload_n 1, 1) := by decide +kernel
theorem dX12_rests_7 : decode cX12_rests 7 = .ok (.iload_n 2, 1) := by decide +kernel
theorem dX12_rests_8 : decode cX12_rests 8 = .ok (.iload_n 3, 1) := by decide +kernel
theorem dX12_rests_9 : decode cX12_rests 9 = .ok (.invokevirtual 459, 3) := by decide +kernel
theorem dX12_rests_12 : decode cX12_rests 12 = .ok (.ifCond .eq 9, 3) := by decide +kernel
theorem dX12_rests_15 : decode cX12_rests 15 = .ok (.iload 4, 2) := by decide +kernel
theorem dX12_rests_17 : decode cX12_rests 17 = .ok (.iconst (-1), 1) := by decide +kernel
theorem dX12_rests_18 : decode cX12_rests 18 = .ok (.if_icmp .ge 5, 3) := by decide +kernel
theorem dX12_rests_21 : decode cX12_rests 21 = .ok (.iconst (-1), 1) := by decide +kernel
theorem dX12_rests_22 : decode cX12_rests 22 = .ok (.ireturn, 1) := by decide +kernel
theorem dX12_rests_23 : decode cX12_rests 23 = .ok (.aload_n 0, 1) := by decide +kernel
theorem dX12_rests_24 : decode cX12_rests 24 = .ok (.iload_n 3, 1) := by decide +kernel
theorem dX12_rests_25 : decode cX12_rests 25 = .ok (.invokevirtual 322, 3) := by decide +kernel
theorem dX12_rests_28 : decode cX12_rests 28 = .ok (.iconst 1, 1) := by decide +kernel
theorem dX12_rests_29 : decode cX12_rests 29 = .ok (.iadd, 1) := by decide +kernel
theorem dX12_rests_30 : decode cX12_rests 30 = .ok (.istore 5, 2) := by decide +kernel
theorem dX12_rests_32 : decode cX12_rests 32 = .ok (.iconst 0, 1) := by decide +kernel
theorem dX12_rests_33 : decode cX12_rests 33 = .ok (.istore 6, 2) := by decide +kernel
theorem dX12_rests_35 : decode cX12_rests 35 = .ok (.iload 6, 2) := by decide +kernel
theorem dX12_rests_37 : decode cX12_rests 37 = .ok (.iconst 2, 1) := by decide +kernel
theorem dX12_rests_38 : decode cX12_rests 38 = .ok (.iload 5, 2) := by decide +kernel
theorem dX12_rests_40 : decode cX12_rests 40 = .ok (.imul, 1) := by decide +kernel
theorem dX12_rests_41 : decode cX12_rests 41 = .ok (.iload 5, 2) := by decide +kernel
theorem dX12_rests_43 : decode cX12_rests 43 = .ok (.imul, 1) := by decide +kernel
theorem dX12_rests_44 : decode cX12_rests 44 = .ok (.if_icmp .ge 41, 3) := by decide +kernel
theorem dX12_rests_47 : decode cX12_rests 47 = .ok (.aload_n 0, 1) := by decide +kernel
theorem dX12_rests_48 : decode cX12_rests 48 = .ok (.getfield 87, 3) := by decide +kernel
theorem dX12_rests_51 : decode cX12_rests 51 = .ok (.iload 6, 2) := by decide +kernel
theorem dX12_rests_53 : decode cX12_rests 53 = .ok (.aload_n 0, 1) := by decide +kernel
theorem dX12_rests_54 : decode cX12_rests 54 = .ok (.iload_n 1, 1) := by decide +kernel
theorem dX12_rests_55 : decode cX12_rests 55 = .ok (.iload_n 2, 1) := by decide +kernel
theorem dX12_rests_56 : decode cX12_rests 56 = .ok (.iload_n 3, 1) := by decide +kernel
theorem dX12_rests_57 : decode cX12_rests 57 = .ok (.iload 6, 2) := by decide +kernel
theorem dX12_rests_59 : decode cX12_rests 59 = .ok (.iconst 2, 1) := by decide +kernel
theorem dX12_rests_60 : decode cX12_rests 60 = .ok (.idiv, 1) := by decide +kernel
theorem dX12_rests_61 : decode cX12_rests 61 = .ok (.iload 5, 2) := by decide +kernel
theorem dX12_rests_63 : decode cX12_rests 63 = .ok (.idiv, 1) := by decide +kernel
theorem dX12_rests_64 : decode cX12_rests 64 = .ok (.iload 6, 2) := by decide +kernel
theorem dX12_rests_66 : decode cX12_rests 66 = .ok (.iconst 2, 1) := by decide +kernel
theorem dX12_rests_67 : decode cX12_rests 67 = .ok (.idiv, 1) := by decide +kernel
theorem dX12_rests_68 : decode cX12_rests 68 = .ok (.iload 5, 2) := by decide +kernel
theorem dX12_rests_70 : decode cX12_rests 70 = .ok (.irem, 1) := by decide +kernel
theorem dX12_rests_71 : decode cX12_rests 71 = .ok (.iload 6, 2) := by decide +kernel
theorem dX12_rests_73 : decode cX12_rests 73 = .ok (.iconst 2, 1) := by decide +kernel
theorem dX12_rests_74 : decode cX12_rests 74 = .ok (.irem, 1) := by decide +kernel
theorem dX12_rests_75 : decode cX12_rests 75 = .ok (.invokevirtual 463, 3) := by decide +kernel
theorem dX12_rests_78 : decode cX12_rests 78 = .ok (.iastore, 1) := by decide +kernel
theorem dX12_rests_79 : decode cX12_rests 79 = .ok (.iinc 6 1, 3) := by decide +kernel
theorem dX12_rests_82 : decode cX12_rests 82 = .ok (.goto (-47), 3) := by decide +kernel
theorem dX12_rests_85 : decode cX12_rests 85 = .ok (.iconst 0, 1) := by decide +kernel
theorem dX12_rests_86 : decode cX12_rests 86 = .ok (.istore 6, 2) := by decide +kernel
theorem dX12_rests_88 : decode cX12_rests 88 = .ok (.iconst 0, 1) := by decide +kernel
theorem dX12_rests_89 : decode cX12_rests 89 = .ok (.istore 7, 2) := by decide +kernel
theorem dX12_rests_91 : decode cX12_rests 91 = .ok (.iload 7, 2) := by decide +kernel
theorem dX12_rests_93 : decode cX12_rests 93 = .ok (.iload 5, 2) := by decide +kernel
theorem dX12_rests_95 : decode cX12_rests 95 = .ok (.if_icmp .ge 153, 3) := by decide +kernel
theorem dX12_rests_98 : decode cX12_rests 98 = .ok (.iconst 0, 1) := by decide +kernel
theorem dX12_rests_99 : decode cX12_rests 99 = .ok (.istore 8, 2) := by decide +kernel
theorem dX12_rests_101 : decode cX12_rests 101 = .ok (.iload 8, 2) := by decide +kernel
theorem dX12_rests_103 : decode cX12_rests 103 = .ok (.iload 5, 2) := by decide +kernel
theorem dX12_rests_105 : decode cX12_rests 105 = .ok (.if_icmp .ge 137, 3) := by decide +kernel
theorem dX12_rests_108 : decode cX12_rests 108 = .ok (.iconst 1, 1) := by decide +kernel
theorem dX12_rests_109 : decode cX12_rests 109 = .ok (.istore 9, 2) := by decide +kernel
theorem dX12_rests_111 : decode cX12_rests 111 = .ok (.iconst 0, 1) := by decide +kernel
theorem dX12_rests_112 : decode cX12_rests 112 = .ok (.istore 10, 2) := by decide +kernel
theorem dX12_rests_114 : decode cX12_rests 114 = .ok (.iload 10, 2) := by decide +kernel
theorem dX12_rests_116 : decode cX12_rests 116 = .ok (.iload 5, 2) := by decide +kernel
theorem dX12_rests_118 : decode cX12_rests 118 = .ok (.if_icmp .ge 91, 3) := by decide +kernel
theorem dX12_rests_121 : decode cX12_rests 121 = .ok (.iload 9, 2) := by decide +kernel
theorem dX12_rests_123 : decode cX12_rests 123 = .ok (.ifCond .eq 77, 3) := by decide +kernel
theorem dX12_rests_126 : decode cX12_rests 126 = .ok (.aload_n 0, 1) := by decide +kernel
theorem dX12_rests_127 : decode cX12_rests 127 = .ok (.getfield 87, 3) := by decide +kernel
theorem dX12_rests_130 : decode cX12_rests 130 = .ok (.iconst 2, 1) := by decide +kernel
theorem dX12_rests_131 : decode cX12_rests 131 = .ok (.iload 5, 2) := by decide +kernel
theorem dX12_rests_133 : decode cX12_rests 133 = .ok (.iload 10, 2) := by decide +kernel
theorem dX12_rests_135 : decode cX12_rests 135 = .ok (.imul, 1) := by decide +kernel
theorem dX12_rests_136 : decode cX12_rests 136 = .ok (.iload 8, 2) := by decide +kernel
theorem dX12_rests_138 : decode cX12_rests 138 = .ok (.iadd, 1) := by decide +kernel
theorem dX12_rests_139 : decode cX12_rests 139 = .ok (.imul, 1) := by decide +kernel
theorem dX12_rests_140 : decode cX12_rests 140 = .ok (.iaload, 1) := by decide +kernel
theorem dX12_rests_141 : decode cX12_rests 141 = .ok (.aload_n 0, 1) := by decide +kernel
theorem dX12_rests_142 : decode cX12_rests 142 = .ok (.getfield 87, 3) := by decide +kernel
theorem dX12_rests_145 : decode cX12_rests 145 = .ok (.iconst 2, 1) := by decide +kernel
theorem dX12_rests_146 : decode cX12_rests 146 = .ok (.iload 5, 2) := by decide +kernel
theorem dX12_rests_148 : decode cX12_rests 148 = .ok (.iload 7, 2) := by decide +kernel
theorem dX12_rests_150 : decode cX12_rests 150 = .ok (.imul, 1) := by decide +kernel
theorem dX12_rests_151 : decode cX12_rests 151 = .ok (.iload 8, 2) := by decide +kernel
theorem dX12_rests_153 : decode cX12_rests 153 = .ok (.iadd, 1) := by decide +kernel
theorem dX12_rests_154 : decode cX12_rests 154 = .ok (.imul, 1) := by decide +kernel
theorem dX12_rests_155 : decode cX12_rests 155 = .ok (.iaload, 1) := by decide +kernel
theorem dX12_rests_156 : decode cX12_rests 156 = .ok (.if_icmp .gt 44, 3) := by decide +kernel
theorem dX12_rests_159 : decode cX12_rests 159 = .ok (.aload_n 0, 1) := by decide +kernel
theorem dX12_rests_160 : decode cX12_rests 160 = .ok (.getfield 87, 3) := by decide +kernel
theorem dX12_rests_163 : decode cX12_rests 163 = .ok (.iconst 2, 1) := by decide +kernel
theorem dX12_rests_164 : decode cX12_rests 164 = .ok (.iload 5, 2) := by decide +kernel
theorem dX12_rests_166 : decode cX12_rests 166 = .ok (.iload 7, 2) := by decide +kernel
theorem dX12_rests_168 : decode cX12_rests 168 = .ok (.imul, 1) := by decide +kernel
theorem dX12_rests_169 : decode cX12_rests 169 = .ok (.iload 10, 2) := by decide +kernel
theorem dX12_rests_171 : decode cX12_rests 171 = .ok (.iadd, 1) := by decide +kernel
theorem dX12_rests_172 : decode cX12_rests 172 = .ok (.imul, 1) := by decide +kernel
theorem dX12_rests_173 : decode cX12_rests 173 = .ok (.iconst 1, 1) := by decide +kernel
theorem dX12_rests_174 : decode cX12_rests 174 = .ok (.iadd, 1) := by decide +kernel
theorem dX12_rests_175 : decode cX12_rests 175 = .ok (.iaload, 1) := by decide +kernel
theorem dX12_rests_176 : decode cX12_rests 176 = .ok (.aload_n 0, 1) := by decide +kernel
theorem dX12_rests_177 : decode cX12_rests 177 = .ok (.getfield 87, 3) := by decide +kernel
theorem dX12_rests_180 : decode cX12_rests 180 = .ok (.iconst 2, 1) := by decide +kernel
theorem dX12_rests_181 : decode cX12_rests 181 = .ok (.iload 5, 2) := by decide +kernel
theorem dX12_rests_183 : decode cX12_rests 183 = .ok (.iload 7, 2) := by decide +kernel
theorem dX12_rests_185 : decode cX12_rests 185 = .ok (.imul, 1) := by decide +kernel
theorem dX12_rests_186 : decode cX12_rests 186 = .ok (.iload 8, 2) := by decide +kernel
theorem dX12_rests_188 : decode cX12_rests 188 = .ok (.iadd, 1) := by decide +kernel
theorem dX12_rests_189 : decode cX12_rests 189 = .ok (.imul, 1) := by decide +kernel
theorem dX12_rests_190 : decode cX12_rests 190 = .ok (.iconst 1, 1) := by decide +kernel
theorem dX12_rests_191 : decode cX12_rests 191 = .ok (.iadd, 1) := by decide +kernel
theorem dX12_rests_192 : decode cX12_rests 192 = .ok (.iaload, 1) := by decide +kernel
theorem dX12_rests_193 : decode cX12_rests 193 = .ok (.if_icmp .gt 7, 3) := by decide +kernel
theorem dX12_rests_196 : decode cX12_rests 196 = .ok (.iconst 1, 1) := by decide +kernel
theorem dX12_rests_197 : decode cX12_rests 197 = .ok (.goto 4, 3) := by decide +kernel
theorem dX12_rests_200 : decode cX12_rests 200 = .ok (.iconst 0, 1) := by decide +kernel
theorem dX12_rests_201 : decode cX12_rests 201 = .ok (.istore 9, 2) := by decide +kernel
theorem dX12_rests_203 : decode cX12_rests 203 = .ok (.iinc 10 1, 3) := by decide +kernel
theorem dX12_rests_206 : decode cX12_rests 206 = .ok (.goto (-92), 3) := by decide +kernel
theorem dX12_rests_209 : decode cX12_rests 209 = .ok (.iload 9, 2) := by decide +kernel
theorem dX12_rests_211 : decode cX12_rests 211 = .ok (.ifCond .ne 6, 3) := by decide +kernel
theorem dX12_rests_214 : decode cX12_rests 214 = .ok (.goto 22, 3) := by decide +kernel
theorem dX12_rests_217 : decode cX12_rests 217 = .ok (.iload 6, 2) := by decide +kernel
theorem dX12_rests_219 : decode cX12_rests 219 = .ok (.iload 4, 2) := by decide +kernel
theorem dX12_rests_221 : decode cX12_rests 221 = .ok (.if_icmp .ne 12, 3) := by decide +kernel
theorem dX12_rests_224 : decode cX12_rests 224 = .ok (.bipush 10, 2) := by decide +kernel
theorem dX12_rests_226 : decode cX12_rests 226 = .ok (.iload 7, 2) := by decide +kernel
theorem dX12_rests_228 : decode cX12_rests 228 = .ok (.imul, 1) := by decide +kernel
theorem dX12_rests_229 : decode cX12_rests 229 = .ok (.iload 8, 2) := by decide +kernel
theorem dX12_rests_231 : decode cX12_rests 231 = .ok (.iadd, 1) := by decide +kernel
theorem dX12_rests_232 : decode cX12_rests 232 = .ok (.ireturn, 1) := by decide +kernel
theorem dX12_rests_233 : decode cX12_rests 233 = .ok (.iinc 6 1, 3) := by decide +kernel
theorem dX12_rests_236 : decode cX12_rests 236 = .ok (.iinc 8 1, 3) := by decide +kernel
theorem dX12_rests_239 : decode cX12_rests 239 = .ok (.goto (-138), 3) := by decide +kernel
theorem dX12_rests_242 : decode cX12_rests 242 = .ok (.iinc 7 1, 3) := by decide +kernel
theorem dX12_rests_245 : decode cX12_rests 245 = .ok (.goto (-154), 3) := by decide +kernel
theorem dX12_rests_248 : decode cX12_rests 248 = .ok (.iload 4, 2) := by decide +kernel
theorem dX12_rests_250 : decode cX12_rests 250 = .ok (.iconst (-1), 1) := by decide +kernel
theorem dX12_rests_251 : decode cX12_rests 251 = .ok (.if_icmp .ne 8, 3) := by decide +kernel
theorem dX12_rests_254 : decode cX12_rests 254 = .ok (.iload 6, 2) := by decide +kernel
theorem dX12_rests_256 : decode cX12_rests 256 = .ok (.goto 4, 3) := by decide +kernel
theorem dX12_rests_259 : decode cX12_rests 259 = .ok (.iconst (-1), 1) := by decide +kernel
theorem dX12_rests_260 : decode cX12_rests 260 = .ok (.ireturn, 1) := by decide +kernel
def X12_rests_201 (n : Nat) (K91 : Int32 → Int32 → Int32 → Int32 → Mm → Option (Int32 × Mm)) (K101 : Int32 → Int32 → Int32 → Int32 → Int32 → Mm → Option (Int32 × Mm)) (K114 : Int32 → Int32 → Int32 → Int32 → Int32 → Bool → Int32 → Mm → Option (Int32 × Mm)) (x4 : Int32) (x5 : Int32) (x6 : Int32) (x7 : Int32) (x8 : Int32) (x10 : Int32) (s0 : Bool) (h : Mm) : Option (Int32 × Mm) := (K114 x4 x5 x6 x7 x8 s0 (x10 + (1)) h)
set_option maxRecDepth 100000 in
set_option maxHeartbeats 4000000 in
theorem v_X12_rests_201 {X : WX} {G : GX} {o : Mm} {n : Nat} {K91 : Int32 → Int32 → Int32 → Int32 → Mm → Option (Int32 × Mm)} {K101 : Int32 → Int32 → Int32 → Int32 → Int32 → Mm → Option (Int32 × Mm)} {K114 : Int32 → Int32 → Int32 → Int32 → Int32 → Bool → Int32 → Mm → Option (Int32 × Mm)} {rv : Int32} {hz : Mm} (hK91 : ∀ (x4 : Int32) (x5 : Int32) (x6 : Int32) (x7 : Int32) (h : Mm), K91 x4 x5 x6 x7 h = some (rv, hz) → V X G RX12 cX12_rests 11 (some .int) 93 0 0 (QR X G false o (some (.int rv)) hz) false o 91 [(0, .ref (xa X 251)), (4, .int x4), (5, .int x5), (6, .int x6), (7, .int x7)] [] h) (hK101 : ∀ (x4 : Int32) (x5 : Int32) (x6 : Int32) (x7 : Int32) (x8 : Int32) (h : Mm), K101 x4 x5 x6 x7 x8 h = some (rv, hz) → V X G RX12 cX12_rests 11 (some .int) 93 0 0 (QR X G false o (some (.int rv)) hz) false o 101 [(0, .ref (xa X 251)), (4, .int x4), (5, .int x5), (6, .int x6), (7, .int x7), (8, .int x8)] [] h) (hK114 : ∀ (x4 : Int32) (x5 : Int32) (x6 : Int32) (x7 : Int32) (x8 : Int32) (x9 : Bool) (x10 : Int32) (h : Mm), K114 x4 x5 x6 x7 x8 x9 x10 h = some (rv, hz) → V X G RX12 cX12_rests 11 (some .int) 93 0 0 (QR X G false o (some (.int rv)) hz) false o 114 [(0, .ref (xa X 251)), (4, .int x4), (5, .int x5), (6, .int x6), (7, .int x7), (8, .int x8), (9, .int (b2i x9)), (10, .int x10)] [] h) {x4 : Int32} {x5 : Int32} {x6 : Int32} {x7 : Int32} {x8 : Int32} {x10 : Int32} {s0 : Bool} {h : Mm} (hF : X12_rests_201 n K91 K101 K114 x4 x5 x6 x7 x8 x10 s0 h = some (rv, hz)) : V X G RX12 cX12_rests 11 (some .int) 93 0 0 (QR X G false o (some (.int rv)) hz) false o 201 [(0, .ref (xa X 251)), (4, .int x4), (5, .int x5), (6, .int x6), (7, .int x7), (8, .int x8), (10, .int x10)] [.int (b2i s0)] h := by
  unfold X12_rests_201 at hF
  refine V.istore [(9, _), (0, _), (4, _), (5, _), (6, _), (7, _), (8, _), (10, _)] dX12_rests_201 (by decide) rfl ?_
  refine V.iinc (v := (x10 + (1))) 7 [(10, _), (9, _), (0, _), (4, _), (5, _), (6, _), (7, _), (8, _)] dX12_rests_203 rfl rfl (by decide) rfl ?_
  refine V.goto (tgt := 114) dX12_rests_206 rfl ?_
  exact V.sub [2, 3, 4, 5, 6, 7, 1, 0] rfl (hK114 _ _ _ _ _ _ _ _ hF)
def X12_rests_200 (n : Nat) (K91 : Int32 → Int32 → Int32 → Int32 → Mm → Option (Int32 × Mm)) (K101 : Int32 → Int32 → Int32 → Int32 → Int32 → Mm → Option (Int32 × Mm)) (K114 : Int32 → Int32 → Int32 → Int32 → Int32 → Bool → Int32 → Mm → Option (Int32 × Mm)) (x4 : Int32) (x5 : Int32) (x6 : Int32) (x7 : Int32) (x8 : Int32) (x10 : Int32) (h : Mm) : Option (Int32 × Mm) := (X12_rests_201 n K91 K101 K114 x4 x5 x6 x7 x8 x10 false h)
set_option maxRecDepth 100000 in
set_option maxHeartbeats 4000000 in
theorem v_X12_rests_200 {X : WX} {G : GX} {o : Mm} {n : Nat} {K91 : Int32 → Int32 → Int32 → Int32 → Mm → Option (Int32 × Mm)} {K101 : Int32 → Int32 → Int32 → Int32 → Int32 → Mm → Option (Int32 × Mm)} {K114 : Int32 → Int32 → Int32 → Int32 → Int32 → Bool → Int32 → Mm → Option (Int32 × Mm)} {rv : Int32} {hz : Mm} (hK91 : ∀ (x4 : Int32) (x5 : Int32) (x6 : Int32) (x7 : Int32) (h : Mm), K91 x4 x5 x6 x7 h = some (rv, hz) → V X G RX12 cX12_rests 11 (some .int) 93 0 0 (QR X G false o (some (.int rv)) hz) false o 91 [(0, .ref (xa X 251)), (4, .int x4), (5, .int x5), (6, .int x6), (7, .int x7)] [] h) (hK101 : ∀ (x4 : Int32) (x5 : Int32) (x6 : Int32) (x7 : Int32) (x8 : Int32) (h : Mm), K101 x4 x5 x6 x7 x8 h = some (rv, hz) → V X G RX12 cX12_rests 11 (some .int) 93 0 0 (QR X G false o (some (.int rv)) hz) false o 101 [(0, .ref (xa X 251)), (4, .int x4), (5, .int x5), (6, .int x6), (7, .int x7), (8, .int x8)] [] h) (hK114 : ∀ (x4 : Int32) (x5 : Int32) (x6 : Int32) (x7 : Int32) (x8 : Int32) (x9 : Bool) (x10 : Int32) (h : Mm), K114 x4 x5 x6 x7 x8 x9 x10 h = some (rv, hz) → V X G RX12 cX12_rests 11 (some .int) 93 0 0 (QR X G false o (some (.int rv)) hz) false o 114 [(0, .ref (xa X 251)), (4, .int x4), (5, .int x5), (6, .int x6), (7, .int x7), (8, .int x8), (9, .int (b2i x9)), (10, .int x10)] [] h) {x4 : Int32} {x5 : Int32} {x6 : Int32} {x7 : Int32} {x8 : Int32} {x10 : Int32} {h : Mm} (hF : X12_rests_200 n K91 K101 K114 x4 x5 x6 x7 x8 x10 h = some (rv, hz)) : V X G RX12 cX12_rests 11 (some .int) 93 0 0 (QR X G false o (some (.int rv)) hz) false o 200 [(0, .ref (xa X 251)), (4, .int x4), (5, .int x5), (6, .int x6), (7, .int x7), (8, .int x8), (10, .int x10)] [] h := by
  unfold X12_rests_200 at hF
  refine V.iconst (v := 0) dX12_rests_200 rfl ?_
  exact (v_X12_rests_201 hK91 hK101 hK114 hF)
def X12_rests_236 (n : Nat) (K91 : Int32 → Int32 → Int32 → Int32 → Mm → Option (Int32 × Mm)) (K101 : Int32 → Int32 → Int32 → Int32 → Int32 → Mm → Option (Int32 × Mm)) (x4 : Int32) (x5 : Int32) (x6 : Int32) (x7 : Int32) (x8 : Int32) (h : Mm) : Option (Int32 × Mm) := (K101 x4 x5 x6 x7 (x8 + (1)) h)
set_option maxRecDepth 100000 in
set_option maxHeartbeats 4000000 in
theorem v_X12_rests_236 {X : WX} {G : GX} {o : Mm} {n : Nat} {K91 : Int32 → Int32 → Int32 → Int32 → Mm → Option (Int32 × Mm)} {K101 : Int32 → Int32 → Int32 → Int32 → Int32 → Mm → Option (Int32 × Mm)} {rv : Int32} {hz : Mm} (hK91 : ∀ (x4 : Int32) (x5 : Int32) (x6 : Int32) (x7 : Int32) (h : Mm), K91 x4 x5 x6 x7 h = some (rv, hz) → V X G RX12 cX12_rests 11 (some .int) 93 0 0 (QR X G false o (some (.int rv)) hz) false o 91 [(0, .ref (xa X 251)), (4, .int x4), (5, .int x5), (6, .int x6), (7, .int x7)] [] h) (hK101 : ∀ (x4 : Int32) (x5 : Int32) (x6 : Int32) (x7 : Int32) (x8 : Int32) (h : Mm), K101 x4 x5 x6 x7 x8 h = some (rv, hz) → V X G RX12 cX12_rests 11 (some .int) 93 0 0 (QR X G false o (some (.int rv)) hz) false o 101 [(0, .ref (xa X 251)), (4, .int x4), (5, .int x5), (6, .int x6), (7, .int x7), (8, .int x8)] [] h) {x4 : Int32} {x5 : Int32} {x6 : Int32} {x7 : Int32} {x8 : Int32} {h : Mm} (hF : X12_rests_236 n K91 K101 x4 x5 x6 x7 x8 h = some (rv, hz)) : V X G RX12 cX12_rests 11 (some .int) 93 0 0 (QR X G false o (some (.int rv)) hz) false o 236 [(0, .ref (xa X 251)), (4, .int x4), (5, .int x5), (6, .int x6), (7, .int x7), (8, .int x8)] [] h := by
  unfold X12_rests_236 at hF
  refine V.iinc (v := (x8 + (1))) 5 [(8, _), (0, _), (4, _), (5, _), (6, _), (7, _)] dX12_rests_236 rfl rfl (by decide) rfl ?_
  refine V.goto (tgt := 101) dX12_rests_239 rfl ?_
  exact V.sub [1, 2, 3, 4, 5, 0] rfl (hK101 _ _ _ _ _ _ hF)
def X12_rests_114 (n : Nat) (K91 : Int32 → Int32 → Int32 → Int32 → Mm → Option (Int32 × Mm)) (K101 : Int32 → Int32 → Int32 → Int32 → Int32 → Mm → Option (Int32 × Mm)) : Nat → Int32 → Int32 → Int32 → Int32 → Int32 → Bool → Int32 → Mm → Option (Int32 × Mm)
  | 0, _, _, _, _, _, _, _, _ => none
  | f + 1, x4, x5, x6, x7, x8, x9, x10, h => (if x5 ≤ x10 then (if x9 = true then (if x6 = x4 then (some ((((10) * x7) + x8), h)) else (X12_rests_236 n K91 K101 x4 x5 (x6 + (1)) x7 x8 h)) else (X12_rests_236 n K91 K101 x4 x5 x6 x7 x8 h)) else (if x9 = true then (if inB ((2) * ((x5 * x10) + x8)) (aln 271) then (if inB ((2) * ((x5 * x7) + x8)) (aln 271) then (if (h.1 271 ((2) * ((x5 * x7) + x8)).toNatClampNeg) < (h.1 271 ((2) * ((x5 * x10) + x8)).toNatClampNeg) then (X12_rests_200 n K91 K101 (X12_rests_114 n K91 K101 f) x4 x5 x6 x7 x8 x10 h) else (if inB (((2) * ((x5 * x7) + x10)) + (1)) (aln 271) then (if inB (((2) * ((x5 * x7) + x8)) + (1)) (aln 271) then (if (h.1 271 (((2) * ((x5 * x7) + x8)) + (1)).toNatClampNeg) < (h.1 271 (((2) * ((x5 * x7) + x10)) + (1)).toNatClampNeg) then (X12_rests_200 n K91 K101 (X12_rests_114 n K91 K101 f) x4 x5 x6 x7 x8 x10 h) else (X12_rests_201 n K91 K101 (X12_rests_114 n K91 K101 f) x4 x5 x6 x7 x8 x10 true h)) else none) else none)) else none) else none) else (X12_rests_200 n K91 K101 (X12_rests_114 n K91 K101 f) x4 x5 x6 x7 x8 x10 h)))
set_option maxRecDepth 100000 in
set_option maxHeartbeats 4000000 in
theorem v_X12_rests_114 {X : WX} {G : GX} {o : Mm} {n : Nat} {K91 : Int32 → Int32 → Int32 → Int32 → Mm → Option (Int32 × Mm)} {K101 : Int32 → Int32 → Int32 → Int32 → Int32 → Mm → Option (Int32 × Mm)} {rv : Int32} {hz : Mm} (hK91 : ∀ (x4 : Int32) (x5 : Int32) (x6 : Int32) (x7 : Int32) (h : Mm), K91 x4 x5 x6 x7 h = some (rv, hz) → V X G RX12 cX12_rests 11 (some .int) 93 0 0 (QR X G false o (some (.int rv)) hz) false o 91 [(0, .ref (xa X 251)), (4, .int x4), (5, .int x5), (6, .int x6), (7, .int x7)] [] h) (hK101 : ∀ (x4 : Int32) (x5 : Int32) (x6 : Int32) (x7 : Int32) (x8 : Int32) (h : Mm), K101 x4 x5 x6 x7 x8 h = some (rv, hz) → V X G RX12 cX12_rests 11 (some .int) 93 0 0 (QR X G false o (some (.int rv)) hz) false o 101 [(0, .ref (xa X 251)), (4, .int x4), (5, .int x5), (6, .int x6), (7, .int x7), (8, .int x8)] [] h) : ∀ (f : Nat) (x4 : Int32) (x5 : Int32) (x6 : Int32) (x7 : Int32) (x8 : Int32) (x9 : Bool) (x10 : Int32) (h : Mm), X12_rests_114 n K91 K101 f x4 x5 x6 x7 x8 x9 x10 h = some (rv, hz) → V X G RX12 cX12_rests 11 (some .int) 93 0 0 (QR X G false o (some (.int rv)) hz) false o 114 [(0, .ref (xa X 251)), (4, .int x4), (5, .int x5), (6, .int x6), (7, .int x7), (8, .int x8), (9, .int (b2i x9)), (10, .int x10)] [] h := by
  intro f
  induction f with
  | zero => intro x4 x5 x6 x7 x8 x9 x10 h hF; exact nomatch (show (none : Option (Int32 × Mm)) = some (rv, hz) from hF)
  | succ f ih =>
    intro x4 x5 x6 x7 x8 x9 x10 h hF
    unfold X12_rests_114 at hF
    refine V.iload 7 dX12_rests_114 rfl ?_
    refine V.iload 2 dX12_rests_116 rfl ?_
    refine V.icmp_ge (tgt := 209) dX12_rests_118 rfl (fun c => ?_) (fun c => ?_)
    · replace hF := (if_pos c).symm.trans hF
      refine V.iload 6 dX12_rests_209 rfl ?_
      refine V.ifz_ne (tgt := 217) dX12_rests_211 rfl (fun c => ?_) (fun c => ?_)
      · replace hF := (if_pos c).symm.trans hF
        refine V.iload 3 dX12_rests_217 rfl ?_
        refine V.iload 1 dX12_rests_219 rfl ?_
        refine V.icmp_ne (tgt := 233) dX12_rests_221 rfl (fun c => ?_) (fun c => ?_)
        · replace hF := (if_neg c).symm.trans hF
          refine V.iinc (v := (x6 + (1))) 3 [(6, _), (0, _), (4, _), (5, _), (7, _), (8, _), (9, _), (10, _)] dX12_rests_233 rfl rfl (by decide) rfl ?_
          exact V.sub [1, 2, 3, 0, 4, 5] rfl (v_X12_rests_236 hK91 hK101 hF)
        · replace hF := (if_pos c).symm.trans hF
          refine V.bipush (v := 10) dX12_rests_224 (by decide) ?_
          refine V.iload 4 dX12_rests_226 rfl ?_
          refine V.imul dX12_rests_228 ?_
          refine V.iload 5 dX12_rests_229 rfl ?_
          refine V.iadd dX12_rests_231 ?_
          cases hF
          exact V.iret dX12_rests_232
      · replace hF := (if_neg c).symm.trans hF
        refine V.goto (tgt := 236) dX12_rests_214 rfl ?_
        exact V.sub [0, 1, 2, 3, 4, 5] rfl (v_X12_rests_236 hK91 hK101 hF)
    · replace hF := (if_neg c).symm.trans hF
      refine V.iload 6 dX12_rests_121 rfl ?_
      refine V.ifz_eq (tgt := 200) dX12_rests_123 rfl (fun c => ?_) (fun c => ?_)
      · replace hF := (if_neg c).symm.trans hF
        exact V.sub [0, 1, 2, 3, 4, 5, 7] rfl (v_X12_rests_200 hK91 hK101 ih hF)
      · replace hF := (if_pos c).symm.trans hF
        refine V.aload_n 0 dX12_rests_126 rfl rfl ?_
        refine V.getR (v := 271) fl_X12_87 sh_251 rfl fx_251_48 (by decide) dX12_rests_127 ?_
        refine V.iconst (v := 2) dX12_rests_130 rfl ?_
        refine V.iload 2 dX12_rests_131 rfl ?_
        refine V.iload 7 dX12_rests_133 rfl ?_
        refine V.imul dX12_rests_135 ?_
        refine V.iload 5 dX12_rests_136 rfl ?_
        refine V.iadd dX12_rests_138 ?_
        refine V.imul dX12_rests_139 ?_
        obtain ⟨hk, hF⟩ := ck hF
        refine V.iald io_271 hk dX12_rests_140 ?_
        refine V.aload_n 0 dX12_rests_141 rfl rfl ?_
        refine V.getR (v := 271) fl_X12_87 sh_251 rfl fx_251_48 (by decide) dX12_rests_142 ?_
        refine V.iconst (v := 2) dX12_rests_145 rfl ?_
        refine V.iload 2 dX12_rests_146 rfl ?_
        refine V.iload 4 dX12_rests_148 rfl ?_
        refine V.imul dX12_rests_150 ?_
        refine V.iload 5 dX12_rests_151 rfl ?_
        refine V.iadd dX12_rests_153 ?_
        refine V.imul dX12_rests_154 ?_
        obtain ⟨hk, hF⟩ := ck hF
        refine V.iald io_271 hk dX12_rests_155 ?_
        refine V.icmp_gt (tgt := 200) dX12_rests_156 rfl (fun c => ?_) (fun c => ?_)
        · replace hF := (if_pos c).symm.trans hF
          exact V.sub [0, 1, 2, 3, 4, 5, 7] rfl (v_X12_rests_200 hK91 hK101 ih hF)
        · replace hF := (if_neg c).symm.trans hF
          refine V.aload_n 0 dX12_rests_159 rfl rfl ?_
          refine V.getR (v := 271) fl_X12_87 sh_251 rfl fx_251_48 (by decide) dX12_rests_160 ?_
          refine V.iconst (v := 2) dX12_rests_163 rfl ?_
          refine V.iload 2 dX12_rests_164 rfl ?_
          refine V.iload 4 dX12_rests_166 rfl ?_
          refine V.imul dX12_rests_168 ?_
          refine V.iload 7 dX12_rests_169 rfl ?_
          refine V.iadd dX12_rests_171 ?_
          refine V.imul dX12_rests_172 ?_
          refine V.iconst (v := 1) dX12_rests_173 rfl ?_
          refine V.iadd dX12_rests_174 ?_
          obtain ⟨hk, hF⟩ := ck hF
          refine V.iald io_271 hk dX12_rests_175 ?_
          refine V.aload_n 0 dX12_rests_176 rfl rfl ?_
          refine V.getR (v := 271) fl_X12_87 sh_251 rfl fx_251_48 (by decide) dX12_rests_177 ?_
          refine V.iconst (v := 2) dX12_rests_180 rfl ?_
          refine V.iload 2 dX12_rests_181 rfl ?_
          refine V.iload 4 dX12_rests_183 rfl ?_
          refine V.imul dX12_rests_185 ?_
          refine V.iload 5 dX12_rests_186 rfl ?_
          refine V.iadd dX12_rests_188 ?_
          refine V.imul dX12_rests_189 ?_
          refine V.iconst (v := 1) dX12_rests_190 rfl ?_
          refine V.iadd dX12_rests_191 ?_
          obtain ⟨hk, hF⟩ := ck hF
          refine V.iald io_271 hk dX12_rests_192 ?_
          refine V.icmp_gt (tgt := 200) dX12_rests_193 rfl (fun c => ?_) (fun c => ?_)
          · replace hF := (if_pos c).symm.trans hF
            exact V.sub [0, 1, 2, 3, 4, 5, 7] rfl (v_X12_rests_200 hK91 hK101 ih hF)
          · replace hF := (if_neg c).symm.trans hF
            refine V.iconst (v := 1) dX12_rests_196 rfl ?_
            refine V.goto (tgt := 201) dX12_rests_197 rfl ?_
            exact V.sub [0, 1, 2, 3, 4, 5, 7] rfl (v_X12_rests_201 hK91 hK101 ih hF)
def X12_rests_101 (n : Nat) (K91 : Int32 → Int32 → Int32 → Int32 → Mm → Option (Int32 × Mm)) : Nat → Int32 → Int32 → Int32 → Int32 → Int32 → Mm → Option (Int32 × Mm)
  | 0, _, _, _, _, _, _ => none
  | f + 1, x4, x5, x6, x7, x8, h => (if x5 ≤ x8 then (K91 x4 x5 x6 (x7 + (1)) h) else (X12_rests_114 n K91 (X12_rests_101 n K91 f) n x4 x5 x6 x7 x8 true (0) h))
set_option maxRecDepth 100000 in
set_option maxHeartbeats 4000000 in
theorem v_X12_rests_101 {X : WX} {G : GX} {o : Mm} {n : Nat} {K91 : Int32 → Int32 → Int32 → Int32 → Mm → Option (Int32 × Mm)} {rv : Int32} {hz : Mm} (hK91 : ∀ (x4 : Int32) (x5 : Int32) (x6 : Int32) (x7 : Int32) (h : Mm), K91 x4 x5 x6 x7 h = some (rv, hz) → V X G RX12 cX12_rests 11 (some .int) 93 0 0 (QR X G false o (some (.int rv)) hz) false o 91 [(0, .ref (xa X 251)), (4, .int x4), (5, .int x5), (6, .int x6), (7, .int x7)] [] h) : ∀ (f : Nat) (x4 : Int32) (x5 : Int32) (x6 : Int32) (x7 : Int32) (x8 : Int32) (h : Mm), X12_rests_101 n K91 f x4 x5 x6 x7 x8 h = some (rv, hz) → V X G RX12 cX12_rests 11 (some .int) 93 0 0 (QR X G false o (some (.int rv)) hz) false o 101 [(0, .ref (xa X 251)), (4, .int x4), (5, .int x5), (6, .int x6), (7, .int x7), (8, .int x8)] [] h := by
  intro f
  induction f with
  | zero => intro x4 x5 x6 x7 x8 h hF; exact nomatch (show (none : Option (Int32 × Mm)) = some (rv, hz) from hF)
  | succ f ih =>
    intro x4 x5 x6 x7 x8 h hF
    unfold X12_rests_101 at hF
    refine V.iload 5 dX12_rests_101 rfl ?_
    refine V.iload 2 dX12_rests_103 rfl ?_
    refine V.icmp_ge (tgt := 242) dX12_rests_105 rfl (fun c => ?_) (fun c => ?_)
    · replace hF := (if_pos c).symm.trans hF
      refine V.iinc (v := (x7 + (1))) 4 [(7, _), (0, _), (4, _), (5, _), (6, _), (8, _)] dX12_rests_242 rfl rfl (by decide) rfl ?_
      refine V.goto (tgt := 91) dX12_rests_245 rfl ?_
      exact V.sub [1, 2, 3, 4, 0] rfl (hK91 _ _ _ _ _ hF)
    · replace hF := (if_neg c).symm.trans hF
      refine V.iconst (v := 1) dX12_rests_108 rfl ?_
      refine V.istore [(9, _), (0, _), (4, _), (5, _), (6, _), (7, _), (8, _)] dX12_rests_109 (by decide) rfl ?_
      refine V.iconst (v := 0) dX12_rests_111 rfl ?_
      refine V.istore [(10, _), (9, _), (0, _), (4, _), (5, _), (6, _), (7, _), (8, _)] dX12_rests_112 (by decide) rfl ?_
      exact V.sub [2, 3, 4, 5, 6, 7, 1, 0] rfl (v_X12_rests_114 hK91 ih n _ _ _ _ _ _ _ _ hF)
def X12_rests_91 (n : Nat) : Nat → Int32 → Int32 → Int32 → Int32 → Mm → Option (Int32 × Mm)
  | 0, _, _, _, _, _ => none
  | f + 1, x4, x5, x6, x7, h => (if x5 ≤ x7 then (if x4 = (-1) then (some (x6, h)) else (some ((-1), h))) else (X12_rests_101 n (X12_rests_91 n f) n x4 x5 x6 x7 (0) h))
set_option maxRecDepth 100000 in
set_option maxHeartbeats 4000000 in
theorem v_X12_rests_91 {X : WX} {G : GX} {o : Mm} {n : Nat} {rv : Int32} {hz : Mm} : ∀ (f : Nat) (x4 : Int32) (x5 : Int32) (x6 : Int32) (x7 : Int32) (h : Mm), X12_rests_91 n f x4 x5 x6 x7 h = some (rv, hz) → V X G RX12 cX12_rests 11 (some .int) 93 0 0 (QR X G false o (some (.int rv)) hz) false o 91 [(0, .ref (xa X 251)), (4, .int x4), (5, .int x5), (6, .int x6), (7, .int x7)] [] h := by
  intro f
  induction f with
  | zero => intro x4 x5 x6 x7 h hF; exact nomatch (show (none : Option (Int32 × Mm)) = some (rv, hz) from hF)
  | succ f ih =>
    intro x4 x5 x6 x7 h hF
    unfold X12_rests_91 at hF
    refine V.iload 4 dX12_rests_91 rfl ?_
    refine V.iload 2 dX12_rests_93 rfl ?_
    refine V.icmp_ge (tgt := 248) dX12_rests_95 rfl (fun c => ?_) (fun c => ?_)
    · replace hF := (if_pos c).symm.trans hF
      refine V.iload 1 dX12_rests_248 rfl ?_
      refine V.iconst (v := -1) dX12_rests_250 rfl ?_
      refine V.icmp_ne (tgt := 259) dX12_rests_251 rfl (fun c => ?_) (fun c => ?_)
      · replace hF := (if_neg c).symm.trans hF
        refine V.iconst (v := -1) dX12_rests_259 rfl ?_
        cases hF
        exact V.iret dX12_rests_260
      · replace hF := (if_pos c).symm.trans hF
        refine V.iload 3 dX12_rests_254 rfl ?_
        refine V.goto (tgt := 260) dX12_rests_256 rfl ?_
        cases hF
        exact V.iret dX12_rests_260
    · replace hF := (if_neg c).symm.trans hF
      refine V.iconst (v := 0) dX12_rests_98 rfl ?_
      refine V.istore [(8, _), (0, _), (4, _), (5, _), (6, _), (7, _)] dX12_rests_99 (by decide) rfl ?_
      exact V.sub [1, 2, 3, 4, 5, 0] rfl (v_X12_rests_101 ih n _ _ _ _ _ _ hF)
def X12_rests_35 (n : Nat) : Nat → Int32 → Int32 → Int32 → Int32 → Int32 → Int32 → Mm → Option (Int32 × Mm)
  | 0, _, _, _, _, _, _, _ => none
  | f + 1, x1, x2, x3, x4, x5, x6, h => (if (((2) * x5) * x5) ≤ x6 then (X12_rests_91 n n x4 x5 (0) (0) h) else (if ¬ x5 = 0 then (if ¬ x5 = 0 then (bd (X12_gameOf n x1 x2 x3 ((x6 / (2)) / x5) ((x6 / (2)) - (x6 / (2)) / x5 * x5) (x6 - x6 / (2) * (2)) h) (fun r50 h52 => (if inB x6 (aln 271) then ((X12_rests_35 n f) x1 x2 x3 x4 x5 (x6 + (1)) (wI h52 271 x6.toNatClampNeg r50)) else none))) else none) else none))
set_option maxRecDepth 100000 in
set_option maxHeartbeats 4000000 in
theorem v_X12_rests_35 {X : WX} {G : GX} {o : Mm} {n : Nat} {rv : Int32} {hz : Mm} : ∀ (f : Nat) (x1 : Int32) (x2 : Int32) (x3 : Int32) (x4 : Int32) (x5 : Int32) (x6 : Int32) (h : Mm), X12_rests_35 n f x1 x2 x3 x4 x5 x6 h = some (rv, hz) → V X G RX12 cX12_rests 11 (some .int) 93 0 0 (QR X G false o (some (.int rv)) hz) false o 35 [(0, .ref (xa X 251)), (1, .int x1), (2, .int x2), (3, .int x3), (4, .int x4), (5, .int x5), (6, .int x6)] [] h := by
  intro f
  induction f with
  | zero => intro x1 x2 x3 x4 x5 x6 h hF; exact nomatch (show (none : Option (Int32 × Mm)) = some (rv, hz) from hF)
  | succ f ih =>
    intro x1 x2 x3 x4 x5 x6 h hF
    unfold X12_rests_35 at hF
    refine V.iload 6 dX12_rests_35 rfl ?_
    refine V.iconst (v := 2) dX12_rests_37 rfl ?_
    refine V.iload 5 dX12_rests_38 rfl ?_
    refine V.imul dX12_rests_40 ?_
    refine V.iload 5 dX12_rests_41 rfl ?_
    refine V.imul dX12_rests_43 ?_
    refine V.icmp_ge (tgt := 85) dX12_rests_44 rfl (fun c => ?_) (fun c => ?_)
    · replace hF := (if_pos c).symm.trans hF
      refine V.iconst (v := 0) dX12_rests_85 rfl ?_
      refine V.istore [(6, _), (0, _), (1, _), (2, _), (3, _), (4, _), (5, _)] dX12_rests_86 (by decide) rfl ?_
      refine V.iconst (v := 0) dX12_rests_88 rfl ?_
      refine V.istore [(7, _), (6, _), (0, _), (1, _), (2, _), (3, _), (4, _), (5, _)] dX12_rests_89 (by decide) rfl ?_
      exact V.sub [2, 6, 7, 1, 0] rfl (v_X12_rests_91 n _ _ _ _ _ hF)
    · replace hF := (if_neg c).symm.trans hF
      refine V.aload_n 0 dX12_rests_47 rfl rfl ?_
      refine V.getR (v := 271) fl_X12_87 sh_251 rfl fx_251_48 (by decide) dX12_rests_48 ?_
      refine V.iload 6 dX12_rests_51 rfl ?_
      refine V.aload_n 0 dX12_rests_53 rfl rfl ?_
      refine V.iload_n 1 dX12_rests_54 rfl rfl ?_
      refine V.iload_n 2 dX12_rests_55 rfl rfl ?_
      refine V.iload_n 3 dX12_rests_56 rfl rfl ?_
      refine V.iload 6 dX12_rests_57 rfl ?_
      refine V.iconst (v := 2) dX12_rests_59 rfl ?_
      refine V.idiv dX12_rests_60 (by decide) ?_
      refine V.iload 5 dX12_rests_61 rfl ?_
      obtain ⟨hk, hF⟩ := ck hF
      refine V.idiv dX12_rests_63 hk ?_
      refine V.iload 6 dX12_rests_64 rfl ?_
      refine V.iconst (v := 2) dX12_rests_66 rfl ?_
      refine V.idiv dX12_rests_67 (by decide) ?_
      refine V.iload 5 dX12_rests_68 rfl ?_
      obtain ⟨hk, hF⟩ := ck hF
      refine V.irem dX12_rests_70 hk ?_
      refine V.iload 6 dX12_rests_71 rfl ?_
      refine V.iconst (v := 2) dX12_rests_73 rfl ?_
      refine V.irem dX12_rests_74 (by decide) ?_
      obtain ⟨r50, h52, hc51, hF⟩ := bd_s hF
      refine V.callVi mf_X12_gameOf ml_X12_463 sh_251 (s_X12_gameOf hc51) (by decide) rfl rfl (Nat.le_of_ble_eq_true rfl) dX12_rests_75 ?_
      obtain ⟨hk, hF⟩ := ck hF
      refine V.iast io_271 hk dX12_rests_78 ?_
      refine V.iinc (v := (x6 + (1))) 6 [(6, _), (0, _), (1, _), (2, _), (3, _), (4, _), (5, _)] dX12_rests_79 rfl rfl (by decide) rfl ?_
      refine V.goto (tgt := 35) dX12_rests_82 rfl ?_
      exact V.sub [1, 2, 3, 4, 5, 6, 0] rfl (ih _ _ _ _ _ _ _ hF)
def X12_rests (n : Nat) (x1 : Int32) (x2 : Int32) (x3 : Int32) (x4 : Int32) (h : Mm) : Option (Int32 × Mm) := (bp (X12_isGame x1 x2 x3 (wI h 251 0 (0))) (fun r53 => (if r53 = true then (if (-1) ≤ x4 then (bp (X12_pagesOf x3 (wI h 251 0 (0))) (fun r55 => (X12_rests_35 n n x1 x2 x3 x4 (r55 + (1)) (0) (wI h 251 0 (0))))) else (some ((-1), (wI h 251 0 (0))))) else (some ((-1), (wI h 251 0 (0)))))))
set_option maxRecDepth 100000 in
set_option maxHeartbeats 4000000 in
theorem s_X12_rests {X : WX} {o : Mm} {n : Nat} {x1 : Int32} {x2 : Int32} {x3 : Int32} {x4 : Int32} {rv : Int32} {hz : Mm} {h : Mm} (hF : X12_rests n x1 x2 x3 x4 h = some (rv, hz)) : Sat X yX12_rests cX12_rests 11 (some .int) 93 [.ref (xa X 251), .int x1, .int x2, .int x3, .int x4] false o h (some (.int rv)) hz := by
  unfold X12_rests at hF
  refine Sat.mk (own := RX12) rfl (by decide +kernel) (Nat.le_of_ble_eq_true rfl) (fun G => ?_)
  refine V.sub (lv2 := [(0, _), (1, _), (2, _), (3, _), (4, _)]) [0, 1, 2, 3, 4] rfl ?_
  refine V.aload_n 0 dX12_rests_0 rfl rfl ?_
  refine V.iconst (v := 0) dX12_rests_1 rfl ?_
  refine V.putI fl_X12_93 rfl (tyX12_ok 0 (by decide)) rfl rfl sh_251 rfl km_251 dX12_rests_2 ?_
  refine V.aload_n 0 dX12_rests_5 rfl rfl ?_
  refine V.iload_n 1 dX12_rests_6 rfl rfl ?_
  refine V.iload_n 2 dX12_rests_7 rfl rfl ?_
  refine V.iload_n 3 dX12_rests_8 rfl rfl ?_
  obtain ⟨r53, hc54, hF⟩ := bp_s hF
  refine V.callVi mf_X12_isGame ml_X12_459 sh_251 (s_X12_isGame hc54) (by decide) rfl rfl (Nat.le_of_ble_eq_true rfl) dX12_rests_9 ?_
  refine V.ifz_eq (tgt := 21) dX12_rests_12 rfl (fun c => ?_) (fun c => ?_)
  · replace hF := (if_neg c).symm.trans hF
    refine V.iconst (v := -1) dX12_rests_21 rfl ?_
    cases hF
    exact V.iret dX12_rests_22
  · replace hF := (if_pos c).symm.trans hF
    refine V.iload 4 dX12_rests_15 rfl ?_
    refine V.iconst (v := -1) dX12_rests_17 rfl ?_
    refine V.icmp_ge (tgt := 23) dX12_rests_18 rfl (fun c => ?_) (fun c => ?_)
    · replace hF := (if_pos c).symm.trans hF
      refine V.aload_n 0 dX12_rests_23 rfl rfl ?_
      refine V.iload_n 3 dX12_rests_24 rfl rfl ?_
      obtain ⟨r55, hc56, hF⟩ := bp_s hF
      refine V.callVi mf_X12_pagesOf ml_X12_322 sh_251 (s_X12_pagesOf hc56) (by decide) rfl rfl (Nat.le_of_ble_eq_true rfl) dX12_rests_25 ?_
      refine V.iconst (v := 1) dX12_rests_28 rfl ?_
      refine V.iadd dX12_rests_29 ?_
      refine V.istore [(5, _), (0, _), (1, _), (2, _), (3, _), (4, _)] dX12_rests_30 (by decide) rfl ?_
      refine V.iconst (v := 0) dX12_rests_32 rfl ?_
      refine V.istore [(6, _), (5, _), (0, _), (1, _), (2, _), (3, _), (4, _)] dX12_rests_33 (by decide) rfl ?_
      exact V.sub [2, 3, 4, 5, 6, 1, 0] rfl (v_X12_rests_35 n _ _ _ _ _ _ _ hF)
    · replace hF := (if_neg c).symm.trans hF
      refine V.iconst (v := -1) dX12_rests_21 rfl ?_
      cases hF
      exact V.iret dX12_rests_22
/-! MonsterCotModel.odds -/
theorem dX12_odds_0 : decode cX12_odds 0 = .ok (.aload_n 0, 1) := by decide +kernel
theorem dX12_odds_1 : decode cX12_odds 1 = .ok (.iconst 0, 1) := by decide +kernel
theorem dX12_odds_2 : decode cX12_odds 2 = .ok (.putfield 93, 3) := by decide +kernel
theorem dX12_odds_5 : decode cX12_odds 5 = .ok (.aload_n 0, 1) := by decide +kernel
theorem dX12_odds_6 : decode cX12_odds 6 = .ok (.iload_n 1, 1) := by decide +kernel
theorem dX12_odds_7 : decode cX12_odds 7 = .ok (.invokevirtual 337, 3) := by decide +kernel
theorem dX12_odds_10 : decode cX12_odds 10 = .ok (.ifCond .eq 15, 3) := by decide +kernel
theorem dX12_odds_13 : decode cX12_odds 13 = .ok (.iload_n 2, 1) := by decide +kernel
theorem dX12_odds_14 : decode cX12_odds 14 = .ok (.i2l, 1) := by decide +kernel
theorem dX12_odds_15 : decode cX12_odds 15 = .ok (.lconst 0, 1) := by decide +kernel
theorem dX12_odds_16 : decode cX12_odds 16 = .ok (.ldc2_w 305, 3) := by decide +kernel
theorem dX12_odds_19 : decode cX12_odds 19 = .ok (.invokestatic 214, 3) := by decide +kernel
theorem dX12_odds_22 : decode cX12_odds 22 = .ok (.ifCond .ne 5, 3) := by decide +kernel
theorem dX12_odds_25 : decode cX12_odds 25 = .ok (.iconst (-1), 1) := by decide +kernel
theorem dX12_odds_26 : decode cX12_odds 26 = .ok (.ireturn, 1) := by decide +kernel
theorem dX12_odds_27 : decode cX12_odds 27 = .ok (.ldc_w 466, 3) := by decide +kernel
theorem dX12_odds_30 : decode cX12_odds 30 = .ok (.istore_n 3, 1) := by decide +kernel
theorem dX12_odds_31 : decode cX12_odds 31 = .ok (.iconst 0, 1) := by decide +kernel
theorem dX12_odds_32 : decode cX12_odds 32 = .ok (.istore 4, 2) := by decide +kernel
theorem dX12_odds_34 : decode cX12_odds 34 = .ok (.iload 4, 2) := by decide +kernel
theorem dX12_odds_36 : decode cX12_odds 36 = .ok (.aload_n 0, 1) := by decide +kernel
theorem dX12_odds_37 : decode cX12_odds 37 = .ok (.getfield 49, 3) := by decide +kernel
theorem dX12_odds_40 : decode cX12_odds 40 = .ok (.iconst 3, 1) := by decide +kernel
theorem dX12_odds_41 : decode cX12_odds 41 = .ok (.iload_n 1, 1) := by decide +kernel
theorem dX12_odds_42 : decode cX12_odds 42 = .ok (.imul, 1) := by decide +kernel
theorem dX12_odds_43 : decode cX12_odds 43 = .ok (.iaload, 1) := by decide +kernel
theorem dX12_odds_44 : decode cX12_odds 44 = .ok (.if_icmp .ge 18, 3) := by decide +kernel
theorem dX12_odds_47 : decode cX12_odds 47 = .ok (.iload_n 3, 1) := by decide +kernel
theorem dX12_odds_48 : decode cX12_odds 48 = .ok (.iload_n 3, 1) := by decide +kernel
theorem dX12_odds_49 : decode cX12_odds 49 = .ok (.iload_n 2, 1) := by decide +kernel
theorem dX12_odds_50 : decode cX12_odds 50 = .ok (.imul, 1) := by decide +kernel
theorem dX12_odds_51 : decode cX12_odds 51 = .ok (.bipush 100, 2) := by decide +kernel
theorem dX12_odds_53 : decode cX12_odds 53 = .ok (.idiv, 1) := by decide +kernel
theorem dX12_odds_54 : decode cX12_odds 54 = .ok (.isub, 1) := by decide +kernel
theorem dX12_odds_55 : decode cX12_odds 55 = .ok (.istore_n 3, 1) := by decide +kernel
theorem dX12_odds_56 : decode cX12_odds 56 = .ok (.iinc 4 1, 3) := by decide +kernel
theorem dX12_odds_59 : decode cX12_odds 59 = .ok (.goto (-25), 3) := by decide +kernel
theorem dX12_odds_62 : decode cX12_odds 62 = .ok (.iload_n 3, 1) := by decide +kernel
theorem dX12_odds_63 : decode cX12_odds 63 = .ok (.ireturn, 1) := by decide +kernel
def X12_odds_34 (n : Nat) : Nat → Int32 → Int32 → Int32 → Int32 → Mm → Option (Int32 × Mm)
  | 0, _, _, _, _, _ => none
  | f + 1, x1, x2, x3, x4, h => (if inB ((3) * x1) (aln 260) then (if (h.1 260 ((3) * x1).toNatClampNeg) ≤ x4 then (some (x3, h)) else ((X12_odds_34 n f) x1 x2 (x3 - ((x3 * x2) / (100))) (x4 + (1)) h)) else none)
set_option maxRecDepth 100000 in
set_option maxHeartbeats 4000000 in
theorem v_X12_odds_34 {X : WX} {G : GX} {o : Mm} {n : Nat} {rv : Int32} {hz : Mm} : ∀ (f : Nat) (x1 : Int32) (x2 : Int32) (x3 : Int32) (x4 : Int32) (h : Mm), X12_odds_34 n f x1 x2 x3 x4 h = some (rv, hz) → V X G RX12 cX12_odds 5 (some .int) 2 0 0 (QR X G false o (some (.int rv)) hz) false o 34 [(0, .ref (xa X 251)), (1, .int x1), (2, .int x2), (3, .int x3), (4, .int x4)] [] h := by
  intro f
  induction f with
  | zero => intro x1 x2 x3 x4 h hF; exact nomatch (show (none : Option (Int32 × Mm)) = some (rv, hz) from hF)
  | succ f ih =>
    intro x1 x2 x3 x4 h hF
    unfold X12_odds_34 at hF
    refine V.iload 4 dX12_odds_34 rfl ?_
    refine V.aload_n 0 dX12_odds_36 rfl rfl ?_
    refine V.getR (v := 260) fl_X12_49 sh_251 rfl fx_251_22 (by decide) dX12_odds_37 ?_
    refine V.iconst (v := 3) dX12_odds_40 rfl ?_
    refine V.iload_n 1 dX12_odds_41 rfl rfl ?_
    refine V.imul dX12_odds_42 ?_
    obtain ⟨hk, hF⟩ := ck hF
    refine V.iald io_260 hk dX12_odds_43 ?_
    refine V.icmp_ge (tgt := 62) dX12_odds_44 rfl (fun c => ?_) (fun c => ?_)
    · replace hF := (if_pos c).symm.trans hF
      refine V.iload_n 3 dX12_odds_62 rfl rfl ?_
      cases hF
      exact V.iret dX12_odds_63
    · replace hF := (if_neg c).symm.trans hF
      refine V.iload_n 3 dX12_odds_47 rfl rfl ?_
      refine V.iload_n 3 dX12_odds_48 rfl rfl ?_
      refine V.iload_n 2 dX12_odds_49 rfl rfl ?_
      refine V.imul dX12_odds_50 ?_
      refine V.bipush (v := 100) dX12_odds_51 (by decide) ?_
      refine V.idiv dX12_odds_53 (by decide) ?_
      refine V.isub dX12_odds_54 ?_
      refine V.istore_n [(3, _), (0, _), (1, _), (2, _), (4, _)] dX12_odds_55 rfl (by decide) rfl ?_
      refine V.iinc (v := (x4 + (1))) 4 [(4, _), (3, _), (0, _), (1, _), (2, _)] dX12_odds_56 rfl rfl (by decide) rfl ?_
      refine V.goto (tgt := 34) dX12_odds_59 rfl ?_
      exact V.sub [2, 3, 4, 1, 0] rfl (ih _ _ _ _ _ hF)
def X12_odds (n : Nat) (x1 : Int32) (x2 : Int32) (h : Mm) : Option (Int32 × Mm) := (bp (X12_isHouse x1 (wI h 251 0 (0))) (fun r9 => (if r9 = true then (bp (X12_isIn x2.toInt64 (0 : Int64) (100 : Int64) (wI h 251 0 (0))) (fun r11 => (if r11 = true then (X12_odds_34 n n x1 x2 (1000000) (0) (wI h 251 0 (0))) else (some ((-1), (wI h 251 0 (0))))))) else (some ((-1), (wI h 251 0 (0)))))))
set_option maxRecDepth 100000 in
set_option maxHeartbeats 4000000 in
theorem s_X12_odds {X : WX} {o : Mm} {n : Nat} {x1 : Int32} {x2 : Int32} {rv : Int32} {hz : Mm} {h : Mm} (hF : X12_odds n x1 x2 h = some (rv, hz)) : Sat X yX12_odds cX12_odds 5 (some .int) 2 [.ref (xa X 251), .int x1, .int x2] false o h (some (.int rv)) hz := by
  unfold X12_odds at hF
  refine Sat.mk (own := RX12) rfl (by decide +kernel) (Nat.le_of_ble_eq_true rfl) (fun G => ?_)
  refine V.sub (lv2 := [(0, _), (1, _), (2, _)]) [0, 1, 2] rfl ?_
  refine V.aload_n 0 dX12_odds_0 rfl rfl ?_
  refine V.iconst (v := 0) dX12_odds_1 rfl ?_
  refine V.putI fl_X12_93 rfl (tyX12_ok 0 (by decide)) rfl rfl sh_251 rfl km_251 dX12_odds_2 ?_
  refine V.aload_n 0 dX12_odds_5 rfl rfl ?_
  refine V.iload_n 1 dX12_odds_6 rfl rfl ?_
  obtain ⟨r9, hc10, hF⟩ := bp_s hF
  refine V.callVi mf_X12_isHouse ml_X12_337 sh_251 (s_X12_isHouse hc10) (by decide) rfl rfl (Nat.le_of_ble_eq_true rfl) dX12_odds_7 ?_
  refine V.ifz_eq (tgt := 25) dX12_odds_10 rfl (fun c => ?_) (fun c => ?_)
  · replace hF := (if_neg c).symm.trans hF
    refine V.iconst (v := -1) dX12_odds_25 rfl ?_
    cases hF
    exact V.iret dX12_odds_26
  · replace hF := (if_pos c).symm.trans hF
    refine V.iload_n 2 dX12_odds_13 rfl rfl ?_
    refine V.i2l dX12_odds_14 ?_
    refine V.lconst (v := 0) dX12_odds_15 rfl ?_
    refine V.ldc2 (v := 100) dX12_odds_16 kc_X12_305 ?_
    obtain ⟨r11, hc12, hF⟩ := bp_s hF
    refine V.callSi mf_X12_isIn ml_X12_214 (s_X12_isIn hc12) (by decide) rfl rfl (Nat.le_of_ble_eq_true rfl) dX12_odds_19 ?_
    refine V.ifz_ne (tgt := 27) dX12_odds_22 rfl (fun c => ?_) (fun c => ?_)
    · replace hF := (if_pos c).symm.trans hF
      refine V.ldcw (v := 1000000) dX12_odds_27 kc_X12_466 ?_
      refine V.istore_n [(3, _), (0, _), (1, _), (2, _)] dX12_odds_30 rfl (by decide) rfl ?_
      refine V.iconst (v := 0) dX12_odds_31 rfl ?_
      refine V.istore [(4, _), (3, _), (0, _), (1, _), (2, _)] dX12_odds_32 (by decide) rfl ?_
      exact V.sub [2, 3, 4, 1, 0] rfl (v_X12_odds_34 n _ _ _ _ _ hF)
    · replace hF := (if_neg c).symm.trans hF
      refine V.iconst (v := -1) dX12_odds_25 rfl ?_
      cases hF
      exact V.iret dX12_odds_26
