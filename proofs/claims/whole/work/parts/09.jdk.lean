theorem dJ3_checkIndex_8e157_0 : decode cJ3_checkIndex_8e157 0 = .ok (.iload_n 0, 1) := by decide +kernel
theorem dJ3_checkIndex_8e157_1 : decode cJ3_checkIndex_8e157 1 = .ok (.ifCond .lt 8, 3) := by decide +kernel
theorem dJ3_checkIndex_8e157_4 : decode cJ3_checkIndex_8e157 4 = .ok (.iload_n 0, 1) := by decide +kernel
theorem dJ3_checkIndex_8e157_5 : decode cJ3_checkIndex_8e157 5 = .ok (.iload_n 1, 1) := by decide +kernel
theorem dJ3_checkIndex_8e157_6 : decode cJ3_checkIndex_8e157 6 = .ok (.if_icmp .lt 10, 3) := by decide +kernel
theorem dJ3_checkIndex_8e157_9 : decode cJ3_checkIndex_8e157 9 = .ok (.aload_n 2, 1) := by decide +kernel
theorem dJ3_checkIndex_8e157_10 : decode cJ3_checkIndex_8e157 10 = .ok (.iload_n 0, 1) := by decide +kernel
theorem dJ3_checkIndex_8e157_11 : decode cJ3_checkIndex_8e157 11 = .ok (.iload_n 1, 1) := by decide +kernel
theorem dJ3_checkIndex_8e157_12 : decode cJ3_checkIndex_8e157 12 = .ok (.invokestatic 95, 3) := by decide +kernel
theorem dJ3_checkIndex_8e157_15 : decode cJ3_checkIndex_8e157 15 = .ok (.athrow, 1) := by decide +kernel
theorem dJ3_checkIndex_8e157_16 : decode cJ3_checkIndex_8e157 16 = .ok (.iload_n 0, 1) := by decide +kernel
theorem dJ3_checkIndex_8e157_17 : decode cJ3_checkIndex_8e157 17 = .ok (.ireturn, 1) := by decide +kernel
theorem dJ0_checkIndex_df160_0 : decode cJ0_checkIndex_df160 0 = .ok (.iload_n 0, 1) := by decide +kernel
theorem dJ0_checkIndex_df160_1 : decode cJ0_checkIndex_df160 1 = .ok (.iload_n 1, 1) := by decide +kernel
theorem dJ0_checkIndex_df160_2 : decode cJ0_checkIndex_df160 2 = .ok (.getstatic 1053, 3) := by decide +kernel
theorem dJ0_checkIndex_df160_5 : decode cJ0_checkIndex_df160 5 = .ok (.invokestatic 1059, 3) := by decide +kernel
theorem dJ0_checkIndex_df160_8 : decode cJ0_checkIndex_df160 8 = .ok (.pop, 1) := by decide +kernel
theorem dJ0_checkIndex_df160_9 : decode cJ0_checkIndex_df160 9 = .ok (.return_, 1) := by decide +kernel
theorem s_J3_checkIndex_8e157 {X : WX} {o : Mm} {b : Bool} {x0 x1 rv : Int32} {h : Mm} {v : Value} (hv : v = .null ∨ ∃ t, v = .ref t) (hF : (if x0 < 0 then none else if x0 < x1 then some x0 else none) = some rv) : Sat X yJ3_checkIndex_8e157 cJ3_checkIndex_8e157 3 (some .int) 1 [.int x0, .int x1, v] b o h (some (.int rv)) h := by
  by_cases c : x0 < 0
  · rw [if_pos c] at hF; cases hF
  rw [if_neg c] at hF
  by_cases c2 : x0 < x1
  · rw [if_pos c2] at hF; cases hF
    rcases hv with rfl | ⟨t, rfl⟩
    · refine Sat.mk (own := RJ3) rfl (by decide +kernel) (Nat.le_of_ble_eq_true rfl) (fun G => ?_)
      refine V.sub (lv2 := [(0, _), (1, _)]) [0, 1] rfl ?_
      refine V.iload_n 0 dJ3_checkIndex_8e157_0 rfl rfl ?_
      refine V.if_lt (tgt := 9) dJ3_checkIndex_8e157_1 rfl (fun q => absurd q c) (fun _ => ?_)
      refine V.iload_n 0 dJ3_checkIndex_8e157_4 rfl rfl ?_
      refine V.iload_n 1 dJ3_checkIndex_8e157_5 rfl rfl ?_
      refine V.icmp_lt (tgt := 16) dJ3_checkIndex_8e157_6 rfl (fun _ => ?_) (fun q => absurd c2 q)
      refine V.iload_n 0 dJ3_checkIndex_8e157_16 rfl rfl ?_
      exact V.iret dJ3_checkIndex_8e157_17
    · refine Sat.mk (own := RJ3) rfl (by decide +kernel) (Nat.le_of_ble_eq_true rfl) (fun G => ?_)
      refine V.sub (lv2 := [(0, _), (1, _)]) [0, 1] rfl ?_
      refine V.iload_n 0 dJ3_checkIndex_8e157_0 rfl rfl ?_
      refine V.if_lt (tgt := 9) dJ3_checkIndex_8e157_1 rfl (fun q => absurd q c) (fun _ => ?_)
      refine V.iload_n 0 dJ3_checkIndex_8e157_4 rfl rfl ?_
      refine V.iload_n 1 dJ3_checkIndex_8e157_5 rfl rfl ?_
      refine V.icmp_lt (tgt := 16) dJ3_checkIndex_8e157_6 rfl (fun _ => ?_) (fun q => absurd c2 q)
      refine V.iload_n 0 dJ3_checkIndex_8e157_16 rfl rfl ?_
      exact V.iret dJ3_checkIndex_8e157_17
  · rw [if_neg c2] at hF; cases hF
def J0_checkIndex_df160 (x0 : Int32) (x1 : Int32) (h : Mm) : Option Unit := if x0 < 0 then none else if x0 < x1 then some () else none
theorem s_J0_checkIndex_df160 {X : WX} {o : Mm} {b : Bool} {x0 x1 : Int32} {rv : Unit} {h : Mm} (hF : J0_checkIndex_df160 x0 x1 h = some rv) : Sat X yJ0_checkIndex_df160 cJ0_checkIndex_df160 2 none 2 [.int x0, .int x1] b o h none h := by
  have hF2 : (if x0 < 0 then none else if x0 < x1 then some x0 else none) = some x0 := by
    unfold J0_checkIndex_df160 at hF
    by_cases c : x0 < 0
    · rw [if_pos c] at hF; cases hF
    rw [if_neg c] at hF ⊢
    by_cases c2 : x0 < x1
    · rw [if_pos c2]
    · rw [if_neg c2] at hF; cases hF
  refine Sat.mk (own := RJ0) rfl (by decide +kernel) (Nat.le_of_ble_eq_true rfl) (fun G => ?_)
  refine V.sub (lv2 := [(0, _), (1, _)]) [0, 1] rfl ?_
  refine V.iload_n 0 dJ0_checkIndex_df160_0 rfl rfl ?_
  refine V.iload_n 1 dJ0_checkIndex_df160_1 rfl rfl ?_
  refine V.getsQ fl_J0_1053 dJ0_checkIndex_df160_2 (fun v hv => ?_)
  refine V.callSi mf_J3_checkIndex_8e157 ml_J0_1059 (s_J3_checkIndex_8e157 hv hF2) (by decide) rfl rfl (Nat.le_of_ble_eq_true rfl) dJ0_checkIndex_df160_5 ?_
  refine V.pop dJ0_checkIndex_df160_8 rfl ?_
  exact V.vret dJ0_checkIndex_df160_9
